theorem dX12_spread_0 : decode cX12_spread 0 = .ok (.aload_n 0, 1) := by decide +kernel
theorem dX12_spread_1 : decode cX12_spread 1 = .ok (.iconst 0, 1) := by decide +kernel
theorem dX12_spread_2 : decode cX12_spread 2 = .ok (.putfield 122, 3) := by decide +kernel
theorem dX12_spread_5 : decode cX12_spread 5 = .ok (.aload_n 0, 1) := by decide +kernel
theorem dX12_spread_6 : decode cX12_spread 6 = .ok (.iconst 0, 1) := by decide +kernel
theorem dX12_spread_7 : decode cX12_spread 7 = .ok (.putfield 125, 3) := by decide +kernel
theorem dX12_spread_10 : decode cX12_spread 10 = .ok (.aload_n 0, 1) := by decide +kernel
theorem dX12_spread_11 : decode cX12_spread 11 = .ok (.iload_n 1, 1) := by decide +kernel
theorem dX12_spread_12 : decode cX12_spread 12 = .ok (.iload_n 2, 1) := by decide +kernel
theorem dX12_spread_13 : decode cX12_spread 13 = .ok (.invokevirtual 300, 3) := by decide +kernel
theorem dX12_spread_16 : decode cX12_spread 16 = .ok (.ifCond .ne 9, 3) := by decide +kernel
theorem dX12_spread_19 : decode cX12_spread 19 = .ok (.aload_n 0, 1) := by decide +kernel
theorem dX12_spread_20 : decode cX12_spread 20 = .ok (.iconst 2, 1) := by decide +kernel
theorem dX12_spread_21 : decode cX12_spread 21 = .ok (.invokevirtual 283, 3) := by decide +kernel
theorem dX12_spread_24 : decode cX12_spread 24 = .ok (.ireturn, 1) := by decide +kernel
theorem dX12_spread_25 : decode cX12_spread 25 = .ok (.iload_n 3, 1) := by decide +kernel
theorem dX12_spread_26 : decode cX12_spread 26 = .ok (.iload 4, 2) := by decide +kernel
theorem dX12_spread_28 : decode cX12_spread 28 = .ok (.bipush 48, 2) := by decide +kernel
theorem dX12_spread_30 : decode cX12_spread 30 = .ok (.invokestatic 474, 3) := by decide +kernel
theorem dX12_spread_33 : decode cX12_spread 33 = .ok (.ifCond .ne 9, 3) := by decide +kernel
theorem dX12_spread_36 : decode cX12_spread 36 = .ok (.aload_n 0, 1) := by decide +kernel
theorem dX12_spread_37 : decode cX12_spread 37 = .ok (.iconst 5, 1) := by decide +kernel
theorem dX12_spread_38 : decode cX12_spread 38 = .ok (.invokevirtual 283, 3) := by decide +kernel
theorem dX12_spread_41 : decode cX12_spread 41 = .ok (.ireturn, 1) := by decide +kernel
theorem dX12_spread_42 : decode cX12_spread 42 = .ok (.iload 4, 2) := by decide +kernel
theorem dX12_spread_44 : decode cX12_spread 44 = .ok (.iload_n 3, 1) := by decide +kernel
theorem dX12_spread_45 : decode cX12_spread 45 = .ok (.isub, 1) := by decide +kernel
theorem dX12_spread_46 : decode cX12_spread 46 = .ok (.iconst 1, 1) := by decide +kernel
theorem dX12_spread_47 : decode cX12_spread 47 = .ok (.iadd, 1) := by decide +kernel
theorem dX12_spread_48 : decode cX12_spread 48 = .ok (.istore 5, 2) := by decide +kernel
theorem dX12_spread_50 : decode cX12_spread 50 = .ok (.aload_n 0, 1) := by decide +kernel
theorem dX12_spread_51 : decode cX12_spread 51 = .ok (.lconst 0, 1) := by decide +kernel
theorem dX12_spread_52 : decode cX12_spread 52 = .ok (.putfield 512, 3) := by decide +kernel
theorem dX12_spread_55 : decode cX12_spread 55 = .ok (.aload_n 0, 1) := by decide +kernel
theorem dX12_spread_56 : decode cX12_spread 56 = .ok (.iconst (-1), 1) := by decide +kernel
theorem dX12_spread_57 : decode cX12_spread 57 = .ok (.putfield 56, 3) := by decide +kernel
theorem dX12_spread_60 : decode cX12_spread 60 = .ok (.iconst 0, 1) := by decide +kernel
theorem dX12_spread_61 : decode cX12_spread 61 = .ok (.istore 6, 2) := by decide +kernel
theorem dX12_spread_63 : decode cX12_spread 63 = .ok (.iload 6, 2) := by decide +kernel
theorem dX12_spread_65 : decode cX12_spread 65 = .ok (.iload 5, 2) := by decide +kernel
theorem dX12_spread_67 : decode cX12_spread 67 = .ok (.if_icmp .ge 57, 3) := by decide +kernel
theorem dX12_spread_70 : decode cX12_spread 70 = .ok (.aload_n 0, 1) := by decide +kernel
theorem dX12_spread_71 : decode cX12_spread 71 = .ok (.getfield 119, 3) := by decide +kernel
theorem dX12_spread_74 : decode cX12_spread 74 = .ok (.iload 6, 2) := by decide +kernel
theorem dX12_spread_76 : decode cX12_spread 76 = .ok (.aload_n 0, 1) := by decide +kernel
theorem dX12_spread_77 : decode cX12_spread 77 = .ok (.iload_n 1, 1) := by decide +kernel
theorem dX12_spread_78 : decode cX12_spread 78 = .ok (.iload_n 2, 1) := by decide +kernel
theorem dX12_spread_79 : decode cX12_spread 79 = .ok (.iconst 2, 1) := by decide +kernel
theorem dX12_spread_80 : decode cX12_spread 80 = .ok (.invokevirtual 297, 3) := by decide +kernel
theorem dX12_spread_83 : decode cX12_spread 83 = .ok (.aload_n 0, 1) := by decide +kernel
theorem dX12_spread_84 : decode cX12_spread 84 = .ok (.iload_n 1, 1) := by decide +kernel
theorem dX12_spread_85 : decode cX12_spread 85 = .ok (.iload_n 2, 1) := by decide +kernel
theorem dX12_spread_86 : decode cX12_spread 86 = .ok (.iload_n 3, 1) := by decide +kernel
theorem dX12_spread_87 : decode cX12_spread 87 = .ok (.iload 6, 2) := by decide +kernel
theorem dX12_spread_89 : decode cX12_spread 89 = .ok (.iadd, 1) := by decide +kernel
theorem dX12_spread_90 : decode cX12_spread 90 = .ok (.invokevirtual 321, 3) := by decide +kernel
theorem dX12_spread_93 : decode cX12_spread 93 = .ok (.invokestatic 313, 3) := by decide +kernel
theorem dX12_spread_96 : decode cX12_spread 96 = .ok (.imul, 1) := by decide +kernel
theorem dX12_spread_97 : decode cX12_spread 97 = .ok (.iastore, 1) := by decide +kernel
theorem dX12_spread_98 : decode cX12_spread 98 = .ok (.aload_n 0, 1) := by decide +kernel
theorem dX12_spread_99 : decode cX12_spread 99 = .ok (.dup, 1) := by decide +kernel
theorem dX12_spread_100 : decode cX12_spread 100 = .ok (.getfield 512, 3) := by decide +kernel
theorem dX12_spread_103 : decode cX12_spread 103 = .ok (.aload_n 0, 1) := by decide +kernel
theorem dX12_spread_104 : decode cX12_spread 104 = .ok (.getfield 119, 3) := by decide +kernel
theorem dX12_spread_107 : decode cX12_spread 107 = .ok (.iload 6, 2) := by decide +kernel
theorem dX12_spread_109 : decode cX12_spread 109 = .ok (.iaload, 1) := by decide +kernel
theorem dX12_spread_110 : decode cX12_spread 110 = .ok (.invokestatic 507, 3) := by decide +kernel
theorem dX12_spread_113 : decode cX12_spread 113 = .ok (.i2l, 1) := by decide +kernel
theorem dX12_spread_114 : decode cX12_spread 114 = .ok (.ladd, 1) := by decide +kernel
theorem dX12_spread_115 : decode cX12_spread 115 = .ok (.putfield 512, 3) := by decide +kernel
theorem dX12_spread_118 : decode cX12_spread 118 = .ok (.iinc 6 1, 3) := by decide +kernel
theorem dX12_spread_121 : decode cX12_spread 121 = .ok (.goto (-58), 3) := by decide +kernel
theorem dX12_spread_124 : decode cX12_spread 124 = .ok (.iconst 0, 1) := by decide +kernel
theorem dX12_spread_125 : decode cX12_spread 125 = .ok (.istore 6, 2) := by decide +kernel
theorem dX12_spread_127 : decode cX12_spread 127 = .ok (.iload 6, 2) := by decide +kernel
theorem dX12_spread_129 : decode cX12_spread 129 = .ok (.aload_n 0, 1) := by decide +kernel
theorem dX12_spread_130 : decode cX12_spread 130 = .ok (.getfield 35, 3) := by decide +kernel
theorem dX12_spread_133 : decode cX12_spread 133 = .ok (.iload_n 1, 1) := by decide +kernel
theorem dX12_spread_134 : decode cX12_spread 134 = .ok (.iaload, 1) := by decide +kernel
theorem dX12_spread_135 : decode cX12_spread 135 = .ok (.if_icmp .ge 172, 3) := by decide +kernel
theorem dX12_spread_138 : decode cX12_spread 138 = .ok (.iconst 0, 1) := by decide +kernel
theorem dX12_spread_139 : decode cX12_spread 139 = .ok (.istore 7, 2) := by decide +kernel
theorem dX12_spread_141 : decode cX12_spread 141 = .ok (.iload 7, 2) := by decide +kernel
theorem dX12_spread_143 : decode cX12_spread 143 = .ok (.sipush 2400, 3) := by decide +kernel
theorem dX12_spread_146 : decode cX12_spread 146 = .ok (.if_icmp .ge 155, 3) := by decide +kernel
theorem dX12_spread_149 : decode cX12_spread 149 = .ok (.iload 6, 2) := by decide +kernel
theorem dX12_spread_151 : decode cX12_spread 151 = .ok (.iload_n 2, 1) := by decide +kernel
theorem dX12_spread_152 : decode cX12_spread 152 = .ok (.if_icmp .eq 149, 3) := by decide +kernel
theorem dX12_spread_155 : decode cX12_spread 155 = .ok (.lconst 0, 1) := by decide +kernel
theorem dX12_spread_156 : decode cX12_spread 156 = .ok (.lstore 8, 2) := by decide +kernel
theorem dX12_spread_158 : decode cX12_spread 158 = .ok (.iconst 0, 1) := by decide +kernel
theorem dX12_spread_159 : decode cX12_spread 159 = .ok (.istore 10, 2) := by decide +kernel
theorem dX12_spread_161 : decode cX12_spread 161 = .ok (.iload 10, 2) := by decide +kernel
theorem dX12_spread_163 : decode cX12_spread 163 = .ok (.iload 5, 2) := by decide +kernel
theorem dX12_spread_165 : decode cX12_spread 165 = .ok (.if_icmp .ge 87, 3) := by decide +kernel
theorem dX12_spread_168 : decode cX12_spread 168 = .ok (.aload_n 0, 1) := by decide +kernel
theorem dX12_spread_169 : decode cX12_spread 169 = .ok (.iload_n 1, 1) := by decide +kernel
theorem dX12_spread_170 : decode cX12_spread 170 = .ok (.iload 6, 2) := by decide +kernel
theorem dX12_spread_172 : decode cX12_spread 172 = .ok (.iconst 2, 1) := by decide +kernel
theorem dX12_spread_173 : decode cX12_spread 173 = .ok (.invokevirtual 297, 3) := by decide +kernel
theorem dX12_spread_176 : decode cX12_spread 176 = .ok (.aload_n 0, 1) := by decide +kernel
theorem dX12_spread_177 : decode cX12_spread 177 = .ok (.iload_n 1, 1) := by decide +kernel
theorem dX12_spread_178 : decode cX12_spread 178 = .ok (.iload 6, 2) := by decide +kernel
theorem dX12_spread_180 : decode cX12_spread 180 = .ok (.iload_n 3, 1) := by decide +kernel
theorem dX12_spread_181 : decode cX12_spread 181 = .ok (.iload 10, 2) := by decide +kernel
theorem dX12_spread_183 : decode cX12_spread 183 = .ok (.iadd, 1) := by decide +kernel
theorem dX12_spread_184 : decode cX12_spread 184 = .ok (.invokevirtual 321, 3) := by decide +kernel
theorem dX12_spread_187 : decode cX12_spread 187 = .ok (.invokestatic 313, 3) := by decide +kernel
theorem dX12_spread_190 : decode cX12_spread 190 = .ok (.imul, 1) := by decide +kernel
theorem dX12_spread_191 : decode cX12_spread 191 = .ok (.istore 11, 2) := by decide +kernel
theorem dX12_spread_193 : decode cX12_spread 193 = .ok (.iload 7, 2) := by decide +kernel
theorem dX12_spread_195 : decode cX12_spread 195 = .ok (.bipush 24, 2) := by decide +kernel
theorem dX12_spread_197 : decode cX12_spread 197 = .ok (.idiv, 1) := by decide +kernel
theorem dX12_spread_198 : decode cX12_spread 198 = .ok (.aload_n 0, 1) := by decide +kernel
theorem dX12_spread_199 : decode cX12_spread 199 = .ok (.iload_n 1, 1) := by decide +kernel
theorem dX12_spread_200 : decode cX12_spread 200 = .ok (.iload 6, 2) := by decide +kernel
theorem dX12_spread_202 : decode cX12_spread 202 = .ok (.iload_n 3, 1) := by decide +kernel
theorem dX12_spread_203 : decode cX12_spread 203 = .ok (.iload 10, 2) := by decide +kernel
theorem dX12_spread_205 : decode cX12_spread 205 = .ok (.iadd, 1) := by decide +kernel
theorem dX12_spread_206 : decode cX12_spread 206 = .ok (.invokevirtual 318, 3) := by decide +kernel
theorem dX12_spread_209 : decode cX12_spread 209 = .ok (.iload 7, 2) := by decide +kernel
theorem dX12_spread_211 : decode cX12_spread 211 = .ok (.bipush 24, 2) := by decide +kernel
theorem dX12_spread_213 : decode cX12_spread 213 = .ok (.irem, 1) := by decide +kernel
theorem dX12_spread_214 : decode cX12_spread 214 = .ok (.iadd, 1) := by decide +kernel
theorem dX12_spread_215 : decode cX12_spread 215 = .ok (.bipush 24, 2) := by decide +kernel
theorem dX12_spread_217 : decode cX12_spread 217 = .ok (.irem, 1) := by decide +kernel
theorem dX12_spread_218 : decode cX12_spread 218 = .ok (.invokestatic 313, 3) := by decide +kernel
theorem dX12_spread_221 : decode cX12_spread 221 = .ok (.imul, 1) := by decide +kernel
theorem dX12_spread_222 : decode cX12_spread 222 = .ok (.istore 12, 2) := by decide +kernel
theorem dX12_spread_224 : decode cX12_spread 224 = .ok (.lload 8, 2) := by decide +kernel
theorem dX12_spread_226 : decode cX12_spread 226 = .ok (.aload_n 0, 1) := by decide +kernel
theorem dX12_spread_227 : decode cX12_spread 227 = .ok (.getfield 119, 3) := by decide +kernel
theorem dX12_spread_230 : decode cX12_spread 230 = .ok (.iload 10, 2) := by decide +kernel
theorem dX12_spread_232 : decode cX12_spread 232 = .ok (.iaload, 1) := by decide +kernel
theorem dX12_spread_233 : decode cX12_spread 233 = .ok (.iload 11, 2) := by decide +kernel
theorem dX12_spread_235 : decode cX12_spread 235 = .ok (.iadd, 1) := by decide +kernel
theorem dX12_spread_236 : decode cX12_spread 236 = .ok (.iload 12, 2) := by decide +kernel
theorem dX12_spread_238 : decode cX12_spread 238 = .ok (.isub, 1) := by decide +kernel
theorem dX12_spread_239 : decode cX12_spread 239 = .ok (.invokestatic 507, 3) := by decide +kernel
theorem dX12_spread_242 : decode cX12_spread 242 = .ok (.i2l, 1) := by decide +kernel
theorem dX12_spread_243 : decode cX12_spread 243 = .ok (.ladd, 1) := by decide +kernel
theorem dX12_spread_244 : decode cX12_spread 244 = .ok (.lstore 8, 2) := by decide +kernel
theorem dX12_spread_246 : decode cX12_spread 246 = .ok (.iinc 10 1, 3) := by decide +kernel
theorem dX12_spread_249 : decode cX12_spread 249 = .ok (.goto (-88), 3) := by decide +kernel
theorem dX12_spread_252 : decode cX12_spread 252 = .ok (.lload 8, 2) := by decide +kernel
theorem dX12_spread_254 : decode cX12_spread 254 = .ok (.aload_n 0, 1) := by decide +kernel
theorem dX12_spread_255 : decode cX12_spread 255 = .ok (.getfield 512, 3) := by decide +kernel
theorem dX12_spread_258 : decode cX12_spread 258 = .ok (.lcmp, 1) := by decide +kernel
theorem dX12_spread_259 : decode cX12_spread 259 = .ok (.ifCond .lt 6, 3) := by decide +kernel
theorem dX12_spread_262 : decode cX12_spread 262 = .ok (.goto 33, 3) := by decide +kernel
theorem dX12_spread_265 : decode cX12_spread 265 = .ok (.aload_n 0, 1) := by decide +kernel
theorem dX12_spread_266 : decode cX12_spread 266 = .ok (.lload 8, 2) := by decide +kernel
theorem dX12_spread_268 : decode cX12_spread 268 = .ok (.putfield 512, 3) := by decide +kernel
theorem dX12_spread_271 : decode cX12_spread 271 = .ok (.aload_n 0, 1) := by decide +kernel
theorem dX12_spread_272 : decode cX12_spread 272 = .ok (.iload 6, 2) := by decide +kernel
theorem dX12_spread_274 : decode cX12_spread 274 = .ok (.putfield 56, 3) := by decide +kernel
theorem dX12_spread_277 : decode cX12_spread 277 = .ok (.aload_n 0, 1) := by decide +kernel
theorem dX12_spread_278 : decode cX12_spread 278 = .ok (.iload 7, 2) := by decide +kernel
theorem dX12_spread_280 : decode cX12_spread 280 = .ok (.bipush 24, 2) := by decide +kernel
theorem dX12_spread_282 : decode cX12_spread 282 = .ok (.idiv, 1) := by decide +kernel
theorem dX12_spread_283 : decode cX12_spread 283 = .ok (.putfield 515, 3) := by decide +kernel
theorem dX12_spread_286 : decode cX12_spread 286 = .ok (.aload_n 0, 1) := by decide +kernel
theorem dX12_spread_287 : decode cX12_spread 287 = .ok (.iload 7, 2) := by decide +kernel
theorem dX12_spread_289 : decode cX12_spread 289 = .ok (.bipush 24, 2) := by decide +kernel
theorem dX12_spread_291 : decode cX12_spread 291 = .ok (.irem, 1) := by decide +kernel
theorem dX12_spread_292 : decode cX12_spread 292 = .ok (.putfield 518, 3) := by decide +kernel
theorem dX12_spread_295 : decode cX12_spread 295 = .ok (.iinc 7 1, 3) := by decide +kernel
theorem dX12_spread_298 : decode cX12_spread 298 = .ok (.goto (-157), 3) := by decide +kernel
theorem dX12_spread_301 : decode cX12_spread 301 = .ok (.iinc 6 1, 3) := by decide +kernel
theorem dX12_spread_304 : decode cX12_spread 304 = .ok (.goto (-177), 3) := by decide +kernel
theorem dX12_spread_307 : decode cX12_spread 307 = .ok (.aload_n 0, 1) := by decide +kernel
theorem dX12_spread_308 : decode cX12_spread 308 = .ok (.iconst 1, 1) := by decide +kernel
theorem dX12_spread_309 : decode cX12_spread 309 = .ok (.putfield 521, 3) := by decide +kernel
theorem dX12_spread_312 : decode cX12_spread 312 = .ok (.aload_n 0, 1) := by decide +kernel
theorem dX12_spread_313 : decode cX12_spread 313 = .ok (.getfield 56, 3) := by decide +kernel
theorem dX12_spread_316 : decode cX12_spread 316 = .ok (.ireturn, 1) := by decide +kernel
noncomputable def f_X12_spread_63 (v1 : Int32) (v2 : Int32) (v3 : Int32) (v5 : Int32) (v6 : Int32) (σ : am_H) : Option ((Int32 × am_H) ⊕ (am_H)) :=
  if v6 < v5 then
   ((f_X12_of v1 v2 2 σ).bind fun p2 =>
   (f_X12_truePlace v1 v2 (v3 + v6) σ).bind fun p3 =>
   (f_X12_cosine p3 σ).bind fun p4 =>
   (am_ix 48 v6).bind fun j5 =>
   (some (am_wI σ 1385 0 j5 (p2 * p4))).bind fun s6 =>
   (am_ix 48 v6).bind fun j7 =>
   (some (am_wL s6 12 0 43 ((s6.2.1 12 0 43) + (Int32.toInt64 (am_ab (s6.1 1385 0 j7)))))).bind fun s8 =>
   some (.inl ((v6 + 1), s8)))
  else
  some (.inr σ)
set_option maxRecDepth 100000 in
set_option maxHeartbeats 4000000 in
theorem q_X12_spread_63 {X : am_X} (hX : am_ks X = am_ksM) {Q : Option Value → am_H → Prop} (v1 : Int32) (v2 : Int32) (v3 : Int32) (v5 : Int32) (v6 : Int32) (σ : am_H) {o : (Int32 × am_H) ⊕ (am_H)} (hf : f_X12_spread_63 v1 v2 v3 v5 v6 σ = some o) (hk0 : ∀ s, o = .inl s → am_G X gm_X12_spread Q 63 [(0, .ref (am_ad X 12 0)), (1, .int v1), (2, .int v2), (3, .int v3), (5, .int v5), (6, .int s.1)] [] s.2) (hk1 : ∀ t, o = .inr t → am_G X gm_X12_spread Q 124 [(0, .ref (am_ad X 12 0)), (1, .int v1), (2, .int v2), (3, .int v3), (5, .int v5)] [] t) : am_G X gm_X12_spread Q 63 [(0, .ref (am_ad X 12 0)), (1, .int v1), (2, .int v2), (3, .int v3), (5, .int v5), (6, .int v6)] [] σ := by
  unfold f_X12_spread_63 at hf
  refine g_iload (pc := 63) 5 rfl dX12_spread_63 ?_
  refine g_iload (pc := 65) 4 rfl dX12_spread_65 ?_
  refine bi_ge (pc := 67) 124 dX12_spread_67 rfl (fun c1 => ?_) (fun c1 => ?_)
  · replace hf := am_ifT c1 hf
    refine g_aload_n (pc := 70) 0 rfl dX12_spread_70 rfl ?_
    refine g_getC (pc := 71) (e := 0) (in_12 hX (by omega)) fr_X12_119 dX12_spread_71 rfl ?_
    refine g_iload (pc := 74) 5 rfl dX12_spread_74 ?_
    refine g_aload_n (pc := 76) 0 rfl dX12_spread_76 rfl ?_
    refine g_iload_n (pc := 77) 1 rfl dX12_spread_77 rfl ?_
    refine g_iload_n (pc := 78) 2 rfl dX12_spread_78 rfl ?_
    refine g_iconst (pc := 79) (v := 2) dX12_spread_79 (by decide) ?_
    obtain ⟨p2, hp2, hf⟩ := am_bd hf
    refine g_cV (pc := 80) (As := [.int v1, .int v2, .int 2]) (st := [.int v6, .ref (am_ad X 1385 0)]) (st1 := [.int p2, .int v6, .ref (am_ad X 1385 0)]) (in_12 hX (by omega)) kk_12 mV_X12_of ln_X12_297 rfl (Nat.le_of_ble_eq_true rfl) (Nat.le_of_ble_eq_true rfl) (k_X12_of hX v1 v2 2 σ hp2) dX12_spread_80 rfl rfl ?_
    refine g_aload_n (pc := 83) 0 rfl dX12_spread_83 rfl ?_
    refine g_iload_n (pc := 84) 1 rfl dX12_spread_84 rfl ?_
    refine g_iload_n (pc := 85) 2 rfl dX12_spread_85 rfl ?_
    refine g_iload_n (pc := 86) 3 rfl dX12_spread_86 rfl ?_
    refine g_iload (pc := 87) 5 rfl dX12_spread_87 ?_
    refine g_iadd (pc := 89) dX12_spread_89 ?_
    obtain ⟨p3, hp3, hf⟩ := am_bd hf
    refine g_cV (pc := 90) (As := [.int v1, .int v2, .int (v3 + v6)]) (st := [.int p2, .int v6, .ref (am_ad X 1385 0)]) (st1 := [.int p3, .int p2, .int v6, .ref (am_ad X 1385 0)]) (in_12 hX (by omega)) kk_12 mV_X12_truePlace ln_X12_321 rfl (Nat.le_of_ble_eq_true rfl) (Nat.le_of_ble_eq_true rfl) (k_X12_truePlace hX v1 v2 (v3 + v6) σ hp3) dX12_spread_90 rfl rfl ?_
    obtain ⟨p4, hp4, hf⟩ := am_bd hf
    refine g_cS (pc := 93) (As := [.int p3]) (st := [.int p2, .int v6, .ref (am_ad X 1385 0)]) (st1 := [.int p4, .int p2, .int v6, .ref (am_ad X 1385 0)]) mS_X12_cosine ln_X12_313 rfl (Nat.le_of_ble_eq_true rfl) (Nat.le_of_ble_eq_true rfl) (k_X12_cosine hX p3 σ hp4) dX12_spread_93 rfl rfl ?_
    refine g_imul (pc := 96) dX12_spread_96 ?_
    obtain ⟨j5, hj5, hf⟩ := am_bd hf
    have gj5 := am_ix_lt hj5
    obtain ⟨s6, hs6, hf⟩ := am_bd hf
    refine g_sI (pc := 97) (in_1385 hX (by omega)) ak_1385 hj5 dX12_spread_97 (Option.some.inj hs6) ?_
    refine g_aload_n (pc := 98) 0 rfl dX12_spread_98 rfl ?_
    refine g_dup (pc := 99) dX12_spread_99 rfl ?_
    refine g_getJ (pc := 100) (in_12 hX (by omega)) fr_X12_512 dX12_spread_100 ?_
    refine g_aload_n (pc := 103) 0 rfl dX12_spread_103 rfl ?_
    refine g_getC (pc := 104) (e := 0) (in_12 hX (by omega)) fr_X12_119 dX12_spread_104 rfl ?_
    refine g_iload (pc := 107) 5 rfl dX12_spread_107 ?_
    obtain ⟨j7, hj7, hf⟩ := am_bd hf
    have gj7 := am_ix_lt hj7
    refine g_aI (pc := 109) (in_1385 hX (by omega)) ak_1385 hj7 dX12_spread_109 ?_
    refine g_mabs (pc := 110) (Nat.le_of_ble_eq_true rfl) (Nat.le_of_ble_eq_true rfl) sp_X12_507 dX12_spread_110 ?_
    refine g_i2l (pc := 113) dX12_spread_113 ?_
    refine g_ladd (pc := 114) dX12_spread_114 ?_
    obtain ⟨s8, hs8, hf⟩ := am_bd hf
    refine g_setJ (pc := 115) (in_12 hX (by omega)) fr_X12_512 dX12_spread_115 (Option.some.inj hs8) ?_
    refine g_iinc (pc := 118) (v := (v6 + 1)) 5 [(6, .int (v6 + 1)), (0, .ref (am_ad X 12 0)), (1, .int v1), (2, .int v2), (3, .int v3), (5, .int v5)] dX12_spread_118 rfl rfl (Nat.le_of_ble_eq_true rfl) rfl ?_
    refine g_goto (pc := 121) 63 dX12_spread_121 rfl ?_
    have hz := hk0 _ (Option.some.inj hf).symm
    exact am_sub [1, 2, 3, 4, 5, 0] rfl hz
  replace hf := am_ifF c1 hf
  have hz := hk1 _ (Option.some.inj hf).symm
  exact am_sub [0, 1, 2, 3, 4] rfl hz
set_option maxRecDepth 100000 in
set_option maxHeartbeats 4000000 in
theorem l_X12_spread_63 {X : am_X} (hX : am_ks X = am_ksM) {Q : Option Value → am_H → Prop} (v1 : Int32) (v2 : Int32) (v3 : Int32) (v5 : Int32) (σ : am_H) (s : Int32 × am_H) {o : am_H} (hf : am_loop (fun s => f_X12_spread_63 v1 v2 v3 v5 s.1 s.2) s = some o) (hk1 : ∀ t, o = t → am_G X gm_X12_spread Q 124 [(0, .ref (am_ad X 12 0)), (1, .int v1), (2, .int v2), (3, .int v3), (5, .int v5)] [] t) : am_G X gm_X12_spread Q 63 [(0, .ref (am_ad X 12 0)), (1, .int v1), (2, .int v2), (3, .int v3), (5, .int v5), (6, .int s.1)] [] s.2 := by
  refine am_loop_ind (P := fun s => am_G X gm_X12_spread Q 63 [(0, .ref (am_ad X 12 0)), (1, .int v1), (2, .int v2), (3, .int v3), (5, .int v5), (6, .int s.1)] [] s.2) (K := fun r => r = o) ?_ hf rfl
  intro s o1 hb hi hr
  exact q_X12_spread_63 hX v1 v2 v3 v5 s.1  s.2 hb hi (fun t e => hk1 t (hr _ e).symm)
noncomputable def f_X12_spread_161 (v1 : Int32) (v2 : Int32) (v3 : Int32) (v5 : Int32) (v6 : Int32) (v7 : Int32) (v8 : Int64) (v10 : Int32) (σ : am_H) : Option ((Int64 × Int32) ⊕ (Int64)) :=
  if v10 < v5 then
   ((f_X12_of v1 v6 2 σ).bind fun p2 =>
   (f_X12_truePlace v1 v6 (v3 + v10) σ).bind fun p3 =>
   (f_X12_cosine p3 σ).bind fun p4 =>
   (f_X12_trueFrom v1 v6 (v3 + v10) σ).bind fun p5 =>
   (f_X12_cosine (am_iR (p5 + (am_iR v7 24)) 24) σ).bind fun p6 =>
   (am_ix 48 v10).bind fun j7 =>
   some (.inl ((v8 + (Int32.toInt64 (am_ab (((σ.1 1385 0 j7) + (p2 * p4)) - ((v7 / 24) * p6))))), (v10 + 1))))
  else
  some (.inr v8)
set_option maxRecDepth 100000 in
set_option maxHeartbeats 4000000 in
theorem q_X12_spread_161 {X : am_X} (hX : am_ks X = am_ksM) {Q : Option Value → am_H → Prop} (v1 : Int32) (v2 : Int32) (v3 : Int32) (v5 : Int32) (v6 : Int32) (v7 : Int32) (v8 : Int64) (v10 : Int32) (σ : am_H) {o : (Int64 × Int32) ⊕ (Int64)} (hf : f_X12_spread_161 v1 v2 v3 v5 v6 v7 v8 v10 σ = some o) (hk0 : ∀ s, o = .inl s → am_G X gm_X12_spread Q 161 [(0, .ref (am_ad X 12 0)), (1, .int v1), (2, .int v2), (3, .int v3), (5, .int v5), (6, .int v6), (7, .int v7), (8, .long s.1), (10, .int s.2)] [] σ) (hk1 : ∀ t, o = .inr t → am_G X gm_X12_spread Q 252 [(0, .ref (am_ad X 12 0)), (1, .int v1), (2, .int v2), (3, .int v3), (5, .int v5), (6, .int v6), (7, .int v7), (8, .long t)] [] σ) : am_G X gm_X12_spread Q 161 [(0, .ref (am_ad X 12 0)), (1, .int v1), (2, .int v2), (3, .int v3), (5, .int v5), (6, .int v6), (7, .int v7), (8, .long v8), (10, .int v10)] [] σ := by
  unfold f_X12_spread_161 at hf
  refine g_iload (pc := 161) 8 rfl dX12_spread_161 ?_
  refine g_iload (pc := 163) 4 rfl dX12_spread_163 ?_
  refine bi_ge (pc := 165) 252 dX12_spread_165 rfl (fun c1 => ?_) (fun c1 => ?_)
  · replace hf := am_ifT c1 hf
    refine g_aload_n (pc := 168) 0 rfl dX12_spread_168 rfl ?_
    refine g_iload_n (pc := 169) 1 rfl dX12_spread_169 rfl ?_
    refine g_iload (pc := 170) 5 rfl dX12_spread_170 ?_
    refine g_iconst (pc := 172) (v := 2) dX12_spread_172 (by decide) ?_
    obtain ⟨p2, hp2, hf⟩ := am_bd hf
    refine g_cV (pc := 173) (As := [.int v1, .int v6, .int 2]) (st := []) (st1 := [.int p2]) (in_12 hX (by omega)) kk_12 mV_X12_of ln_X12_297 rfl (Nat.le_of_ble_eq_true rfl) (Nat.le_of_ble_eq_true rfl) (k_X12_of hX v1 v6 2 σ hp2) dX12_spread_173 rfl rfl ?_
    refine g_aload_n (pc := 176) 0 rfl dX12_spread_176 rfl ?_
    refine g_iload_n (pc := 177) 1 rfl dX12_spread_177 rfl ?_
    refine g_iload (pc := 178) 5 rfl dX12_spread_178 ?_
    refine g_iload_n (pc := 180) 3 rfl dX12_spread_180 rfl ?_
    refine g_iload (pc := 181) 8 rfl dX12_spread_181 ?_
    refine g_iadd (pc := 183) dX12_spread_183 ?_
    obtain ⟨p3, hp3, hf⟩ := am_bd hf
    refine g_cV (pc := 184) (As := [.int v1, .int v6, .int (v3 + v10)]) (st := [.int p2]) (st1 := [.int p3, .int p2]) (in_12 hX (by omega)) kk_12 mV_X12_truePlace ln_X12_321 rfl (Nat.le_of_ble_eq_true rfl) (Nat.le_of_ble_eq_true rfl) (k_X12_truePlace hX v1 v6 (v3 + v10) σ hp3) dX12_spread_184 rfl rfl ?_
    obtain ⟨p4, hp4, hf⟩ := am_bd hf
    refine g_cS (pc := 187) (As := [.int p3]) (st := [.int p2]) (st1 := [.int p4, .int p2]) mS_X12_cosine ln_X12_313 rfl (Nat.le_of_ble_eq_true rfl) (Nat.le_of_ble_eq_true rfl) (k_X12_cosine hX p3 σ hp4) dX12_spread_187 rfl rfl ?_
    refine g_imul (pc := 190) dX12_spread_190 ?_
    refine g_istore (pc := 191) [(11, .int (p2 * p4)), (0, .ref (am_ad X 12 0)), (1, .int v1), (2, .int v2), (3, .int v3), (5, .int v5), (6, .int v6), (7, .int v7), (8, .long v8), (10, .int v10)] dX12_spread_191 (Nat.le_of_ble_eq_true rfl) rfl ?_
    refine g_iload (pc := 193) 7 rfl dX12_spread_193 ?_
    refine g_bipush (pc := 195) (v := 24) dX12_spread_195 (by decide) ?_
    refine g_idiv (pc := 197) dX12_spread_197 (by decide) ?_
    refine g_aload_n (pc := 198) 1 rfl dX12_spread_198 rfl ?_
    refine g_iload_n (pc := 199) 2 rfl dX12_spread_199 rfl ?_
    refine g_iload (pc := 200) 6 rfl dX12_spread_200 ?_
    refine g_iload_n (pc := 202) 4 rfl dX12_spread_202 rfl ?_
    refine g_iload (pc := 203) 9 rfl dX12_spread_203 ?_
    refine g_iadd (pc := 205) dX12_spread_205 ?_
    obtain ⟨p5, hp5, hf⟩ := am_bd hf
    refine g_cV (pc := 206) (As := [.int v1, .int v6, .int (v3 + v10)]) (st := [.int (v7 / 24)]) (st1 := [.int p5, .int (v7 / 24)]) (in_12 hX (by omega)) kk_12 mV_X12_trueFrom ln_X12_318 rfl (Nat.le_of_ble_eq_true rfl) (Nat.le_of_ble_eq_true rfl) (k_X12_trueFrom hX v1 v6 (v3 + v10) σ hp5) dX12_spread_206 rfl rfl ?_
    refine g_iload (pc := 209) 7 rfl dX12_spread_209 ?_
    refine g_bipush (pc := 211) (v := 24) dX12_spread_211 (by decide) ?_
    refine g_irem (pc := 213) dX12_spread_213 (by decide) ?_
    refine g_iadd (pc := 214) dX12_spread_214 ?_
    refine g_bipush (pc := 215) (v := 24) dX12_spread_215 (by decide) ?_
    refine g_irem (pc := 217) dX12_spread_217 (by decide) ?_
    obtain ⟨p6, hp6, hf⟩ := am_bd hf
    refine g_cS (pc := 218) (As := [.int (am_iR (p5 + (am_iR v7 24)) 24)]) (st := [.int (v7 / 24)]) (st1 := [.int p6, .int (v7 / 24)]) mS_X12_cosine ln_X12_313 rfl (Nat.le_of_ble_eq_true rfl) (Nat.le_of_ble_eq_true rfl) (k_X12_cosine hX (am_iR (p5 + (am_iR v7 24)) 24) σ hp6) dX12_spread_218 rfl rfl ?_
    refine g_imul (pc := 221) dX12_spread_221 ?_
    refine g_istore (pc := 222) [(12, .int ((v7 / 24) * p6)), (11, .int (p2 * p4)), (0, .ref (am_ad X 12 0)), (1, .int v1), (2, .int v2), (3, .int v3), (5, .int v5), (6, .int v6), (7, .int v7), (8, .long v8), (10, .int v10)] dX12_spread_222 (Nat.le_of_ble_eq_true rfl) rfl ?_
    refine g_lload (pc := 224) 9 rfl dX12_spread_224 ?_
    refine g_aload_n (pc := 226) 2 rfl dX12_spread_226 rfl ?_
    refine g_getC (pc := 227) (e := 0) (in_12 hX (by omega)) fr_X12_119 dX12_spread_227 rfl ?_
    refine g_iload (pc := 230) 10 rfl dX12_spread_230 ?_
    obtain ⟨j7, hj7, hf⟩ := am_bd hf
    have gj7 := am_ix_lt hj7
    refine g_aI (pc := 232) (in_1385 hX (by omega)) ak_1385 hj7 dX12_spread_232 ?_
    refine g_iload (pc := 233) 1 rfl dX12_spread_233 ?_
    refine g_iadd (pc := 235) dX12_spread_235 ?_
    refine g_iload (pc := 236) 0 rfl dX12_spread_236 ?_
    refine g_isub (pc := 238) dX12_spread_238 ?_
    refine g_mabs (pc := 239) (Nat.le_of_ble_eq_true rfl) (Nat.le_of_ble_eq_true rfl) sp_X12_507 dX12_spread_239 ?_
    refine g_i2l (pc := 242) dX12_spread_242 ?_
    refine g_ladd (pc := 243) dX12_spread_243 ?_
    refine g_lstore (pc := 244) [(8, .long (v8 + (Int32.toInt64 (am_ab (((σ.1 1385 0 j7) + (p2 * p4)) - ((v7 / 24) * p6)))))), (12, .int ((v7 / 24) * p6)), (11, .int (p2 * p4)), (0, .ref (am_ad X 12 0)), (1, .int v1), (2, .int v2), (3, .int v3), (5, .int v5), (6, .int v6), (7, .int v7), (10, .int v10)] dX12_spread_244 (Nat.le_of_ble_eq_true rfl) rfl ?_
    refine g_iinc (pc := 246) (v := (v10 + 1)) 10 [(10, .int (v10 + 1)), (8, .long (v8 + (Int32.toInt64 (am_ab (((σ.1 1385 0 j7) + (p2 * p4)) - ((v7 / 24) * p6)))))), (12, .int ((v7 / 24) * p6)), (11, .int (p2 * p4)), (0, .ref (am_ad X 12 0)), (1, .int v1), (2, .int v2), (3, .int v3), (5, .int v5), (6, .int v6), (7, .int v7)] dX12_spread_246 rfl rfl (Nat.le_of_ble_eq_true rfl) rfl ?_
    refine g_goto (pc := 249) 161 dX12_spread_249 rfl ?_
    have hz := hk0 _ (Option.some.inj hf).symm
    exact am_sub [4, 5, 6, 7, 8, 9, 10, 1, 0] rfl hz
  replace hf := am_ifF c1 hf
  have hz := hk1 _ (Option.some.inj hf).symm
  exact am_sub [0, 1, 2, 3, 4, 5, 6, 7] rfl hz
set_option maxRecDepth 100000 in
set_option maxHeartbeats 4000000 in
theorem l_X12_spread_161 {X : am_X} (hX : am_ks X = am_ksM) {Q : Option Value → am_H → Prop} (v1 : Int32) (v2 : Int32) (v3 : Int32) (v5 : Int32) (v6 : Int32) (v7 : Int32) (σ : am_H) (s : Int64 × Int32) {o : Int64} (hf : am_loop (fun s => f_X12_spread_161 v1 v2 v3 v5 v6 v7 s.1 s.2 σ) s = some o) (hk1 : ∀ t, o = t → am_G X gm_X12_spread Q 252 [(0, .ref (am_ad X 12 0)), (1, .int v1), (2, .int v2), (3, .int v3), (5, .int v5), (6, .int v6), (7, .int v7), (8, .long t)] [] σ) : am_G X gm_X12_spread Q 161 [(0, .ref (am_ad X 12 0)), (1, .int v1), (2, .int v2), (3, .int v3), (5, .int v5), (6, .int v6), (7, .int v7), (8, .long s.1), (10, .int s.2)] [] σ := by
  refine am_loop_ind (P := fun s => am_G X gm_X12_spread Q 161 [(0, .ref (am_ad X 12 0)), (1, .int v1), (2, .int v2), (3, .int v3), (5, .int v5), (6, .int v6), (7, .int v7), (8, .long s.1), (10, .int s.2)] [] σ) (K := fun r => r = o) ?_ hf rfl
  intro s o1 hb hi hr
  exact q_X12_spread_161 hX v1 v2 v3 v5 v6 v7 s.1 s.2  σ hb hi (fun t e => hk1 t (hr _ e).symm)
noncomputable def f_X12_spread_141 (v1 : Int32) (v2 : Int32) (v3 : Int32) (v5 : Int32) (v6 : Int32) (v7 : Int32) (σ : am_H) : Option ((Int32 × am_H) ⊕ (am_H)) :=
  if v7 < 2400 then
   (if v6 = v2 then
    (some (.inr σ))
   else
   (am_loop (fun s => f_X12_spread_161 v1 v2 v3 v5 v6 v7 s.1 s.2 σ) (0, 0)).bind fun w3 =>
   if w3 < (σ.2.1 12 0 43) then
    ((some (am_wL σ 12 0 43 w3)).bind fun s5 =>
    (some (am_wI s5 12 0 32 v6)).bind fun s6 =>
    (some (am_wI s6 12 0 33 (v7 / 24))).bind fun s7 =>
    (some (am_wI s7 12 0 34 (am_iR v7 24))).bind fun s8 =>
    some (.inl ((v7 + 1), s8)))
   else
   some (.inl ((v7 + 1), σ)))
  else
  some (.inr σ)
set_option maxRecDepth 100000 in
set_option maxHeartbeats 4000000 in
theorem q_X12_spread_141 {X : am_X} (hX : am_ks X = am_ksM) {Q : Option Value → am_H → Prop} (v1 : Int32) (v2 : Int32) (v3 : Int32) (v5 : Int32) (v6 : Int32) (v7 : Int32) (σ : am_H) {o : (Int32 × am_H) ⊕ (am_H)} (hf : f_X12_spread_141 v1 v2 v3 v5 v6 v7 σ = some o) (hk0 : ∀ s, o = .inl s → am_G X gm_X12_spread Q 141 [(0, .ref (am_ad X 12 0)), (1, .int v1), (2, .int v2), (3, .int v3), (5, .int v5), (6, .int v6), (7, .int s.1)] [] s.2) (hk1 : ∀ t, o = .inr t → am_G X gm_X12_spread Q 301 [(0, .ref (am_ad X 12 0)), (1, .int v1), (2, .int v2), (3, .int v3), (5, .int v5), (6, .int v6)] [] t) : am_G X gm_X12_spread Q 141 [(0, .ref (am_ad X 12 0)), (1, .int v1), (2, .int v2), (3, .int v3), (5, .int v5), (6, .int v6), (7, .int v7)] [] σ := by
  unfold f_X12_spread_141 at hf
  refine g_iload (pc := 141) 6 rfl dX12_spread_141 ?_
  refine g_sipush (pc := 143) (v := 2400) dX12_spread_143 (by decide) ?_
  refine bi_ge (pc := 146) 301 dX12_spread_146 rfl (fun c1 => ?_) (fun c1 => ?_)
  · replace hf := am_ifT c1 hf
    refine g_iload (pc := 149) 5 rfl dX12_spread_149 ?_
    refine g_iload_n (pc := 151) 2 rfl dX12_spread_151 rfl ?_
    refine bi_eq (pc := 152) 301 dX12_spread_152 rfl (fun c2 => ?_) (fun c2 => ?_)
    · replace hf := am_ifT c2 hf
      have hz := hk1 _ (Option.some.inj hf).symm
      exact am_sub [0, 1, 2, 3, 4, 5] rfl hz
    replace hf := am_ifF c2 hf
    refine g_lconst (pc := 155) (v := 0) dX12_spread_155 (by decide) ?_
    refine g_lstore (pc := 156) [(8, .long 0), (0, .ref (am_ad X 12 0)), (1, .int v1), (2, .int v2), (3, .int v3), (5, .int v5), (6, .int v6), (7, .int v7)] dX12_spread_156 (Nat.le_of_ble_eq_true rfl) rfl ?_
    refine g_iconst (pc := 158) (v := 0) dX12_spread_158 (by decide) ?_
    refine g_istore (pc := 159) [(10, .int 0), (8, .long 0), (0, .ref (am_ad X 12 0)), (1, .int v1), (2, .int v2), (3, .int v3), (5, .int v5), (6, .int v6), (7, .int v7)] dX12_spread_159 (Nat.le_of_ble_eq_true rfl) rfl ?_
    obtain ⟨w3, hw3, hf⟩ := am_bd hf
    refine am_sub [2, 3, 4, 5, 6, 7, 8, 1, 0] rfl (l_X12_spread_161 hX v1 v2 v3 v5 v6 v7  σ (0, 0) hw3 ?_)
    intro t e
    subst e
    refine g_lload (pc := 252) 7 rfl dX12_spread_252 ?_
    refine g_aload_n (pc := 254) 0 rfl dX12_spread_254 rfl ?_
    refine g_getJ (pc := 255) (in_12 hX (by omega)) fr_X12_512 dX12_spread_255 ?_
    refine g_lcm (pc := 258) dX12_spread_258 ?_
    refine bl_lt (pc := 259) 265 dX12_spread_259 rfl (fun c4 => ?_) (fun c4 => ?_)
    · replace hf := am_ifT c4 hf
      refine g_aload_n (pc := 265) 0 rfl dX12_spread_265 rfl ?_
      refine g_lload (pc := 266) 7 rfl dX12_spread_266 ?_
      obtain ⟨s5, hs5, hf⟩ := am_bd hf
      refine g_setJ (pc := 268) (in_12 hX (by omega)) fr_X12_512 dX12_spread_268 (Option.some.inj hs5) ?_
      refine g_aload_n (pc := 271) 0 rfl dX12_spread_271 rfl ?_
      refine g_iload (pc := 272) 5 rfl dX12_spread_272 ?_
      obtain ⟨s6, hs6, hf⟩ := am_bd hf
      refine g_setI (pc := 274) (in_12 hX (by omega)) fr_X12_56 dX12_spread_274 (Option.some.inj hs6) ?_
      refine g_aload_n (pc := 277) 0 rfl dX12_spread_277 rfl ?_
      refine g_iload (pc := 278) 6 rfl dX12_spread_278 ?_
      refine g_bipush (pc := 280) (v := 24) dX12_spread_280 (by decide) ?_
      refine g_idiv (pc := 282) dX12_spread_282 (by decide) ?_
      obtain ⟨s7, hs7, hf⟩ := am_bd hf
      refine g_setI (pc := 283) (in_12 hX (by omega)) fr_X12_515 dX12_spread_283 (Option.some.inj hs7) ?_
      refine g_aload_n (pc := 286) 0 rfl dX12_spread_286 rfl ?_
      refine g_iload (pc := 287) 6 rfl dX12_spread_287 ?_
      refine g_bipush (pc := 289) (v := 24) dX12_spread_289 (by decide) ?_
      refine g_irem (pc := 291) dX12_spread_291 (by decide) ?_
      obtain ⟨s8, hs8, hf⟩ := am_bd hf
      refine g_setI (pc := 292) (in_12 hX (by omega)) fr_X12_518 dX12_spread_292 (Option.some.inj hs8) ?_
      refine g_iinc (pc := 295) (v := (v7 + 1)) 6 [(7, .int (v7 + 1)), (0, .ref (am_ad X 12 0)), (1, .int v1), (2, .int v2), (3, .int v3), (5, .int v5), (6, .int v6), (8, .long w3)] dX12_spread_295 rfl rfl (Nat.le_of_ble_eq_true rfl) rfl ?_
      refine g_goto (pc := 298) 141 dX12_spread_298 rfl ?_
      have hz := hk0 _ (Option.some.inj hf).symm
      exact am_sub [1, 2, 3, 4, 5, 6, 0] rfl hz
    replace hf := am_ifF c4 hf
    refine g_goto (pc := 262) 295 dX12_spread_262 rfl ?_
    refine g_iinc (pc := 295) (v := (v7 + 1)) 6 [(7, .int (v7 + 1)), (0, .ref (am_ad X 12 0)), (1, .int v1), (2, .int v2), (3, .int v3), (5, .int v5), (6, .int v6), (8, .long w3)] dX12_spread_295 rfl rfl (Nat.le_of_ble_eq_true rfl) rfl ?_
    refine g_goto (pc := 298) 141 dX12_spread_298 rfl ?_
    have hz := hk0 _ (Option.some.inj hf).symm
    exact am_sub [1, 2, 3, 4, 5, 6, 0] rfl hz
  replace hf := am_ifF c1 hf
  have hz := hk1 _ (Option.some.inj hf).symm
  exact am_sub [0, 1, 2, 3, 4, 5] rfl hz
set_option maxRecDepth 100000 in
set_option maxHeartbeats 4000000 in
theorem l_X12_spread_141 {X : am_X} (hX : am_ks X = am_ksM) {Q : Option Value → am_H → Prop} (v1 : Int32) (v2 : Int32) (v3 : Int32) (v5 : Int32) (v6 : Int32) (σ : am_H) (s : Int32 × am_H) {o : am_H} (hf : am_loop (fun s => f_X12_spread_141 v1 v2 v3 v5 v6 s.1 s.2) s = some o) (hk1 : ∀ t, o = t → am_G X gm_X12_spread Q 301 [(0, .ref (am_ad X 12 0)), (1, .int v1), (2, .int v2), (3, .int v3), (5, .int v5), (6, .int v6)] [] t) : am_G X gm_X12_spread Q 141 [(0, .ref (am_ad X 12 0)), (1, .int v1), (2, .int v2), (3, .int v3), (5, .int v5), (6, .int v6), (7, .int s.1)] [] s.2 := by
  refine am_loop_ind (P := fun s => am_G X gm_X12_spread Q 141 [(0, .ref (am_ad X 12 0)), (1, .int v1), (2, .int v2), (3, .int v3), (5, .int v5), (6, .int v6), (7, .int s.1)] [] s.2) (K := fun r => r = o) ?_ hf rfl
  intro s o1 hb hi hr
  exact q_X12_spread_141 hX v1 v2 v3 v5 v6 s.1  s.2 hb hi (fun t e => hk1 t (hr _ e).symm)
noncomputable def f_X12_spread_127 (v1 : Int32) (v2 : Int32) (v3 : Int32) (v5 : Int32) (v6 : Int32) (σ : am_H) : Option ((Int32 × am_H) ⊕ (am_H)) :=
  (am_ix 3 v1).bind fun j1 =>
  if v6 < (σ.1 1320 0 j1) then
   ((am_loop (fun s => f_X12_spread_141 v1 v2 v3 v5 v6 s.1 s.2) (0, σ)).bind fun w3 =>
   some (.inl ((v6 + 1), w3)))
  else
  some (.inr σ)
set_option maxRecDepth 100000 in
set_option maxHeartbeats 4000000 in
theorem q_X12_spread_127 {X : am_X} (hX : am_ks X = am_ksM) {Q : Option Value → am_H → Prop} (v1 : Int32) (v2 : Int32) (v3 : Int32) (v5 : Int32) (v6 : Int32) (σ : am_H) {o : (Int32 × am_H) ⊕ (am_H)} (hf : f_X12_spread_127 v1 v2 v3 v5 v6 σ = some o) (hk0 : ∀ s, o = .inl s → am_G X gm_X12_spread Q 127 [(0, .ref (am_ad X 12 0)), (1, .int v1), (2, .int v2), (3, .int v3), (5, .int v5), (6, .int s.1)] [] s.2) (hk1 : ∀ t, o = .inr t → am_G X gm_X12_spread Q 307 [(0, .ref (am_ad X 12 0))] [] t) : am_G X gm_X12_spread Q 127 [(0, .ref (am_ad X 12 0)), (1, .int v1), (2, .int v2), (3, .int v3), (5, .int v5), (6, .int v6)] [] σ := by
  unfold f_X12_spread_127 at hf
  refine g_iload (pc := 127) 5 rfl dX12_spread_127 ?_
  refine g_aload_n (pc := 129) 0 rfl dX12_spread_129 rfl ?_
  refine g_getC (pc := 130) (e := 0) (in_12 hX (by omega)) fr_X12_35 dX12_spread_130 rfl ?_
  refine g_iload_n (pc := 133) 1 rfl dX12_spread_133 rfl ?_
  obtain ⟨j1, hj1, hf⟩ := am_bd hf
  have gj1 := am_ix_lt hj1
  refine g_aI (pc := 134) (in_1320 hX (by omega)) ak_1320 hj1 dX12_spread_134 ?_
  refine bi_ge (pc := 135) 307 dX12_spread_135 rfl (fun c2 => ?_) (fun c2 => ?_)
  · replace hf := am_ifT c2 hf
    refine g_iconst (pc := 138) (v := 0) dX12_spread_138 (by decide) ?_
    refine g_istore (pc := 139) [(7, .int 0), (0, .ref (am_ad X 12 0)), (1, .int v1), (2, .int v2), (3, .int v3), (5, .int v5), (6, .int v6)] dX12_spread_139 (Nat.le_of_ble_eq_true rfl) rfl ?_
    obtain ⟨w3, hw3, hf⟩ := am_bd hf
    refine am_sub [1, 2, 3, 4, 5, 6, 0] rfl (l_X12_spread_141 hX v1 v2 v3 v5 v6  σ (0, σ) hw3 ?_)
    intro t e
    subst e
    refine g_iinc (pc := 301) (v := (v6 + 1)) 5 [(6, .int (v6 + 1)), (0, .ref (am_ad X 12 0)), (1, .int v1), (2, .int v2), (3, .int v3), (5, .int v5)] dX12_spread_301 rfl rfl (Nat.le_of_ble_eq_true rfl) rfl ?_
    refine g_goto (pc := 304) 127 dX12_spread_304 rfl ?_
    have hz := hk0 _ (Option.some.inj hf).symm
    exact am_sub [1, 2, 3, 4, 5, 0] rfl hz
  replace hf := am_ifF c2 hf
  have hz := hk1 _ (Option.some.inj hf).symm
  exact am_sub [0] rfl hz
set_option maxRecDepth 100000 in
set_option maxHeartbeats 4000000 in
theorem l_X12_spread_127 {X : am_X} (hX : am_ks X = am_ksM) {Q : Option Value → am_H → Prop} (v1 : Int32) (v2 : Int32) (v3 : Int32) (v5 : Int32) (σ : am_H) (s : Int32 × am_H) {o : am_H} (hf : am_loop (fun s => f_X12_spread_127 v1 v2 v3 v5 s.1 s.2) s = some o) (hk1 : ∀ t, o = t → am_G X gm_X12_spread Q 307 [(0, .ref (am_ad X 12 0))] [] t) : am_G X gm_X12_spread Q 127 [(0, .ref (am_ad X 12 0)), (1, .int v1), (2, .int v2), (3, .int v3), (5, .int v5), (6, .int s.1)] [] s.2 := by
  refine am_loop_ind (P := fun s => am_G X gm_X12_spread Q 127 [(0, .ref (am_ad X 12 0)), (1, .int v1), (2, .int v2), (3, .int v3), (5, .int v5), (6, .int s.1)] [] s.2) (K := fun r => r = o) ?_ hf rfl
  intro s o1 hb hi hr
  exact q_X12_spread_127 hX v1 v2 v3 v5 s.1  s.2 hb hi (fun t e => hk1 t (hr _ e).symm)
noncomputable def f_X12_spread (v1 : Int32) (v2 : Int32) (v3 : Int32) (v4 : Int32) (σ : am_H) : Option (Int32 × am_H) :=
  (some (am_wI σ 12 0 1 0)).bind fun s1 =>
  (some (am_wI s1 12 0 0 0)).bind fun s2 =>
  (f_X12_isWaveOf v1 v2 s2).bind fun p3 =>
  if p3 = true then
   ((f_X12_isSpan v3 v4 48 s2).bind fun p5 =>
   if p5 = true then
    ((some (am_wL s2 12 0 43 0)).bind fun s7 =>
    (some (am_wI s7 12 0 32 (-1))).bind fun s8 =>
    (am_loop (fun s => f_X12_spread_63 v1 v2 v3 ((v4 - v3) + 1) s.1 s.2) (0, s8)).bind fun w9 =>
    (am_loop (fun s => f_X12_spread_127 v1 v2 v3 ((v4 - v3) + 1) s.1 s.2) (0, w9)).bind fun w10 =>
    (some (am_wI w10 12 0 39 (am_b true))).bind fun s11 =>
    some ((s11.1 12 0 32), s11))
   else
   (f_X12_refuse 5 s2).bind fun p12 =>
   some (p12.1, p12.2))
  else
  (f_X12_refuse 2 s2).bind fun p13 =>
  some (p13.1, p13.2)
set_option maxRecDepth 100000 in
set_option maxHeartbeats 4000000 in
theorem q_X12_spread {X : am_X} (hX : am_ks X = am_ksM) {Q : Option Value → am_H → Prop} (v1 : Int32) (v2 : Int32) (v3 : Int32) (v4 : Int32) (σ : am_H) {o : Int32 × am_H} (hf : f_X12_spread v1 v2 v3 v4 σ = some o) (hk : Q (some (.int o.1)) o.2) : am_G X gm_X12_spread Q 0 [(0, .ref (am_ad X 12 0)), (1, .int v1), (2, .int v2), (3, .int v3), (4, .int v4)] [] σ := by
  unfold f_X12_spread at hf
  refine g_aload_n (pc := 0) 0 rfl dX12_spread_0 rfl ?_
  refine g_iconst (pc := 1) (v := 0) dX12_spread_1 (by decide) ?_
  obtain ⟨s1, hs1, hf⟩ := am_bd hf
  refine g_setI (pc := 2) (in_12 hX (by omega)) fr_X12_122 dX12_spread_2 (Option.some.inj hs1) ?_
  refine g_aload_n (pc := 5) 0 rfl dX12_spread_5 rfl ?_
  refine g_iconst (pc := 6) (v := 0) dX12_spread_6 (by decide) ?_
  obtain ⟨s2, hs2, hf⟩ := am_bd hf
  refine g_setI (pc := 7) (in_12 hX (by omega)) fr_X12_125 dX12_spread_7 (Option.some.inj hs2) ?_
  refine g_aload_n (pc := 10) 0 rfl dX12_spread_10 rfl ?_
  refine g_iload_n (pc := 11) 1 rfl dX12_spread_11 rfl ?_
  refine g_iload_n (pc := 12) 2 rfl dX12_spread_12 rfl ?_
  obtain ⟨p3, hp3, hf⟩ := am_bd hf
  refine g_cV (pc := 13) (As := [.int v1, .int v2]) (st := []) (st1 := [.int (am_b p3)]) (in_12 hX (by omega)) kk_12 mV_X12_isWaveOf ln_X12_300 rfl (Nat.le_of_ble_eq_true rfl) (Nat.le_of_ble_eq_true rfl) (k_X12_isWaveOf hX v1 v2 s2 hp3) dX12_spread_13 rfl rfl ?_
  refine bt_ne (pc := 16) 25 dX12_spread_16 rfl (fun c4 => ?_) (fun c4 => ?_)
  · replace hf := am_ifT c4 hf
    refine g_iload_n (pc := 25) 3 rfl dX12_spread_25 rfl ?_
    refine g_iload (pc := 26) 4 rfl dX12_spread_26 ?_
    refine g_bipush (pc := 28) (v := 48) dX12_spread_28 (by decide) ?_
    obtain ⟨p5, hp5, hf⟩ := am_bd hf
    refine g_cS (pc := 30) (As := [.int v3, .int v4, .int 48]) (st := []) (st1 := [.int (am_b p5)]) mS_X12_isSpan ln_X12_474 rfl (Nat.le_of_ble_eq_true rfl) (Nat.le_of_ble_eq_true rfl) (k_X12_isSpan hX v3 v4 48 s2 hp5) dX12_spread_30 rfl rfl ?_
    refine bt_ne (pc := 33) 42 dX12_spread_33 rfl (fun c6 => ?_) (fun c6 => ?_)
    · replace hf := am_ifT c6 hf
      refine g_iload (pc := 42) 4 rfl dX12_spread_42 ?_
      refine g_iload_n (pc := 44) 3 rfl dX12_spread_44 rfl ?_
      refine g_isub (pc := 45) dX12_spread_45 ?_
      refine g_iconst (pc := 46) (v := 1) dX12_spread_46 (by decide) ?_
      refine g_iadd (pc := 47) dX12_spread_47 ?_
      refine g_istore (pc := 48) [(5, .int ((v4 - v3) + 1)), (0, .ref (am_ad X 12 0)), (1, .int v1), (2, .int v2), (3, .int v3), (4, .int v4)] dX12_spread_48 (Nat.le_of_ble_eq_true rfl) rfl ?_
      refine g_aload_n (pc := 50) 1 rfl dX12_spread_50 rfl ?_
      refine g_lconst (pc := 51) (v := 0) dX12_spread_51 (by decide) ?_
      obtain ⟨s7, hs7, hf⟩ := am_bd hf
      refine g_setJ (pc := 52) (in_12 hX (by omega)) fr_X12_512 dX12_spread_52 (Option.some.inj hs7) ?_
      refine g_aload_n (pc := 55) 1 rfl dX12_spread_55 rfl ?_
      refine g_iconst (pc := 56) (v := (-1)) dX12_spread_56 (by decide) ?_
      obtain ⟨s8, hs8, hf⟩ := am_bd hf
      refine g_setI (pc := 57) (in_12 hX (by omega)) fr_X12_56 dX12_spread_57 (Option.some.inj hs8) ?_
      refine g_iconst (pc := 60) (v := 0) dX12_spread_60 (by decide) ?_
      refine g_istore (pc := 61) [(6, .int 0), (5, .int ((v4 - v3) + 1)), (0, .ref (am_ad X 12 0)), (1, .int v1), (2, .int v2), (3, .int v3), (4, .int v4)] dX12_spread_61 (Nat.le_of_ble_eq_true rfl) rfl ?_
      obtain ⟨w9, hw9, hf⟩ := am_bd hf
      refine am_sub [2, 3, 4, 5, 1, 0] rfl (l_X12_spread_63 hX v1 v2 v3 ((v4 - v3) + 1)  s8 (0, s8) hw9 ?_)
      intro t e
      subst e
      refine g_iconst (pc := 124) (v := 0) dX12_spread_124 (by decide) ?_
      refine g_istore (pc := 125) [(6, .int 0), (0, .ref (am_ad X 12 0)), (1, .int v1), (2, .int v2), (3, .int v3), (5, .int ((v4 - v3) + 1))] dX12_spread_125 (Nat.le_of_ble_eq_true rfl) rfl ?_
      obtain ⟨w10, hw10, hf⟩ := am_bd hf
      refine am_sub [1, 2, 3, 4, 5, 0] rfl (l_X12_spread_127 hX v1 v2 v3 ((v4 - v3) + 1)  w9 (0, w9) hw10 ?_)
      intro t e
      subst e
      refine g_aload_n (pc := 307) 0 rfl dX12_spread_307 rfl ?_
      refine g_iconst (pc := 308) (v := 1) dX12_spread_308 (by decide) ?_
      obtain ⟨s11, hs11, hf⟩ := am_bd hf
      refine g_setZ (x := true) (pc := 309) (in_12 hX (by omega)) fr_X12_521 dX12_spread_309 (Option.some.inj hs11) ?_
      refine g_aload_n (pc := 312) 0 rfl dX12_spread_312 rfl ?_
      refine g_getI (pc := 313) (in_12 hX (by omega)) fr_X12_56 dX12_spread_313 ?_
      have ho := Option.some.inj hf
      subst ho
      exact g_ireturn (pc := 316) (st := []) rfl dX12_spread_316 hk
    replace hf := am_ifF c6 hf
    refine g_aload_n (pc := 36) 0 rfl dX12_spread_36 rfl ?_
    refine g_iconst (pc := 37) (v := 5) dX12_spread_37 (by decide) ?_
    obtain ⟨p12, hp12, hf⟩ := am_bd hf
    refine g_cV (pc := 38) (As := [.int 5]) (st := []) (st1 := [.int p12.1]) (in_12 hX (by omega)) kk_12 mV_X12_refuse ln_X12_283 rfl (Nat.le_of_ble_eq_true rfl) (Nat.le_of_ble_eq_true rfl) (k_X12_refuse hX 5 s2 hp12) dX12_spread_38 rfl rfl ?_
    have ho := Option.some.inj hf
    subst ho
    exact g_ireturn (pc := 41) (st := []) rfl dX12_spread_41 hk
  replace hf := am_ifF c4 hf
  refine g_aload_n (pc := 19) 0 rfl dX12_spread_19 rfl ?_
  refine g_iconst (pc := 20) (v := 2) dX12_spread_20 (by decide) ?_
  obtain ⟨p13, hp13, hf⟩ := am_bd hf
  refine g_cV (pc := 21) (As := [.int 2]) (st := []) (st1 := [.int p13.1]) (in_12 hX (by omega)) kk_12 mV_X12_refuse ln_X12_283 rfl (Nat.le_of_ble_eq_true rfl) (Nat.le_of_ble_eq_true rfl) (k_X12_refuse hX 2 s2 hp13) dX12_spread_21 rfl rfl ?_
  have ho := Option.some.inj hf
  subst ho
  exact g_ireturn (pc := 24) (st := []) rfl dX12_spread_24 hk
theorem k_X12_spread {X : am_X} (hX : am_ks X = am_ksM) (v1 : Int32) (v2 : Int32) (v3 : Int32) (v4 : Int32) (σ : am_H) {o : Int32 × am_H} (hf : f_X12_spread v1 v2 v3 v4 σ = some o) : am_C X gm_X12_spread [.ref (am_ad X 12 0), .int v1, .int v2, .int v3, .int v4] σ (am_is (some (.int o.1)) o.2) :=
  am_ofG rfl (Nat.le_of_ble_eq_true rfl) rfl (q_X12_spread hX v1 v2 v3 v4 σ hf ⟨rfl, rfl⟩)
theorem dX12_spreadTold_0 : decode cX12_spreadTold 0 = .ok (.aload_n 0, 1) := by decide +kernel
theorem dX12_spreadTold_1 : decode cX12_spreadTold 1 = .ok (.iconst 0, 1) := by decide +kernel
theorem dX12_spreadTold_2 : decode cX12_spreadTold 2 = .ok (.putfield 122, 3) := by decide +kernel
theorem dX12_spreadTold_5 : decode cX12_spreadTold 5 = .ok (.aload_n 0, 1) := by decide +kernel
theorem dX12_spreadTold_6 : decode cX12_spreadTold 6 = .ok (.iconst 0, 1) := by decide +kernel
theorem dX12_spreadTold_7 : decode cX12_spreadTold 7 = .ok (.putfield 125, 3) := by decide +kernel
theorem dX12_spreadTold_10 : decode cX12_spreadTold 10 = .ok (.iload_n 1, 1) := by decide +kernel
theorem dX12_spreadTold_11 : decode cX12_spreadTold 11 = .ok (.i2l, 1) := by decide +kernel
theorem dX12_spreadTold_12 : decode cX12_spreadTold 12 = .ok (.lconst 0, 1) := by decide +kernel
theorem dX12_spreadTold_13 : decode cX12_spreadTold 13 = .ok (.ldc2_w 354, 3) := by decide +kernel
theorem dX12_spreadTold_16 : decode cX12_spreadTold 16 = .ok (.invokestatic 239, 3) := by decide +kernel
theorem dX12_spreadTold_19 : decode cX12_spreadTold 19 = .ok (.ifCond .ne 9, 3) := by decide +kernel
theorem dX12_spreadTold_22 : decode cX12_spreadTold 22 = .ok (.aload_n 0, 1) := by decide +kernel
theorem dX12_spreadTold_23 : decode cX12_spreadTold 23 = .ok (.iconst 5, 1) := by decide +kernel
theorem dX12_spreadTold_24 : decode cX12_spreadTold 24 = .ok (.invokevirtual 283, 3) := by decide +kernel
theorem dX12_spreadTold_27 : decode cX12_spreadTold 27 = .ok (.ireturn, 1) := by decide +kernel
theorem dX12_spreadTold_28 : decode cX12_spreadTold 28 = .ok (.aload_n 0, 1) := by decide +kernel
theorem dX12_spreadTold_29 : decode cX12_spreadTold 29 = .ok (.getfield 521, 3) := by decide +kernel
theorem dX12_spreadTold_32 : decode cX12_spreadTold 32 = .ok (.ifCond .eq 15, 3) := by decide +kernel
theorem dX12_spreadTold_35 : decode cX12_spreadTold 35 = .ok (.iload_n 1, 1) := by decide +kernel
theorem dX12_spreadTold_36 : decode cX12_spreadTold 36 = .ok (.iconst 2, 1) := by decide +kernel
theorem dX12_spreadTold_37 : decode cX12_spreadTold 37 = .ok (.if_icmp .ge 17, 3) := by decide +kernel
theorem dX12_spreadTold_40 : decode cX12_spreadTold 40 = .ok (.aload_n 0, 1) := by decide +kernel
theorem dX12_spreadTold_41 : decode cX12_spreadTold 41 = .ok (.getfield 56, 3) := by decide +kernel
theorem dX12_spreadTold_44 : decode cX12_spreadTold 44 = .ok (.ifCond .ge 10, 3) := by decide +kernel
theorem dX12_spreadTold_47 : decode cX12_spreadTold 47 = .ok (.aload_n 0, 1) := by decide +kernel
theorem dX12_spreadTold_48 : decode cX12_spreadTold 48 = .ok (.bipush 8, 2) := by decide +kernel
theorem dX12_spreadTold_50 : decode cX12_spreadTold 50 = .ok (.invokevirtual 283, 3) := by decide +kernel
theorem dX12_spreadTold_53 : decode cX12_spreadTold 53 = .ok (.ireturn, 1) := by decide +kernel
theorem dX12_spreadTold_54 : decode cX12_spreadTold 54 = .ok (.iload_n 1, 1) := by decide +kernel
theorem dX12_spreadTold_55 : decode cX12_spreadTold 55 = .ok (.ifCond .ne 10, 3) := by decide +kernel
theorem dX12_spreadTold_58 : decode cX12_spreadTold 58 = .ok (.aload_n 0, 1) := by decide +kernel
theorem dX12_spreadTold_59 : decode cX12_spreadTold 59 = .ok (.getfield 515, 3) := by decide +kernel
theorem dX12_spreadTold_62 : decode cX12_spreadTold 62 = .ok (.goto 20, 3) := by decide +kernel
theorem dX12_spreadTold_65 : decode cX12_spreadTold 65 = .ok (.iload_n 1, 1) := by decide +kernel
theorem dX12_spreadTold_66 : decode cX12_spreadTold 66 = .ok (.iconst 1, 1) := by decide +kernel
theorem dX12_spreadTold_67 : decode cX12_spreadTold 67 = .ok (.if_icmp .ne 10, 3) := by decide +kernel
theorem dX12_spreadTold_70 : decode cX12_spreadTold 70 = .ok (.aload_n 0, 1) := by decide +kernel
theorem dX12_spreadTold_71 : decode cX12_spreadTold 71 = .ok (.getfield 518, 3) := by decide +kernel
theorem dX12_spreadTold_74 : decode cX12_spreadTold 74 = .ok (.goto 8, 3) := by decide +kernel
theorem dX12_spreadTold_77 : decode cX12_spreadTold 77 = .ok (.aload_n 0, 1) := by decide +kernel
theorem dX12_spreadTold_78 : decode cX12_spreadTold 78 = .ok (.getfield 512, 3) := by decide +kernel
theorem dX12_spreadTold_81 : decode cX12_spreadTold 81 = .ok (.l2i, 1) := by decide +kernel
theorem dX12_spreadTold_82 : decode cX12_spreadTold 82 = .ok (.ireturn, 1) := by decide +kernel
noncomputable def f_X12_spreadTold_47 (σ : am_H) : Option (Int32 × am_H) :=
  (f_X12_refuse 8 σ).bind fun p1 =>
  some (p1.1, p1.2)
set_option maxRecDepth 100000 in
set_option maxHeartbeats 4000000 in
theorem q_X12_spreadTold_47 {X : am_X} (hX : am_ks X = am_ksM) {Q : Option Value → am_H → Prop} (σ : am_H) {o : Int32 × am_H} (hf : f_X12_spreadTold_47 σ = some o) (hk : Q (some (.int o.1)) o.2) : am_G X gm_X12_spreadTold Q 47 [(0, .ref (am_ad X 12 0))] [] σ := by
  unfold f_X12_spreadTold_47 at hf
  refine g_aload_n (pc := 47) 0 rfl dX12_spreadTold_47 rfl ?_
  refine g_bipush (pc := 48) (v := 8) dX12_spreadTold_48 (by decide) ?_
  obtain ⟨p1, hp1, hf⟩ := am_bd hf
  refine g_cV (pc := 50) (As := [.int 8]) (st := []) (st1 := [.int p1.1]) (in_12 hX (by omega)) kk_12 mV_X12_refuse ln_X12_283 rfl (Nat.le_of_ble_eq_true rfl) (Nat.le_of_ble_eq_true rfl) (k_X12_refuse hX 8 σ hp1) dX12_spreadTold_50 rfl rfl ?_
  have ho := Option.some.inj hf
  subst ho
  exact g_ireturn (pc := 53) (st := []) rfl dX12_spreadTold_53 hk
noncomputable def f_X12_spreadTold_54 (v1 : Int32) (σ : am_H) : Option (Int32 × am_H) :=
  if v1 = 0 then
   (some ((σ.1 12 0 33), σ))
  else
  if v1 = 1 then
   (some ((σ.1 12 0 34), σ))
  else
  some ((Int64.toInt32 (σ.2.1 12 0 43)), σ)
set_option maxRecDepth 100000 in
set_option maxHeartbeats 4000000 in
theorem q_X12_spreadTold_54 {X : am_X} (hX : am_ks X = am_ksM) {Q : Option Value → am_H → Prop} (v1 : Int32) (σ : am_H) {o : Int32 × am_H} (hf : f_X12_spreadTold_54 v1 σ = some o) (hk : Q (some (.int o.1)) o.2) : am_G X gm_X12_spreadTold Q 54 [(0, .ref (am_ad X 12 0)), (1, .int v1)] [] σ := by
  unfold f_X12_spreadTold_54 at hf
  refine g_iload_n (pc := 54) 1 rfl dX12_spreadTold_54 rfl ?_
  refine bz_ne (pc := 55) 65 dX12_spreadTold_55 rfl (fun c1 => ?_) (fun c1 => ?_)
  · replace hf := am_ifT c1 hf
    refine g_aload_n (pc := 58) 0 rfl dX12_spreadTold_58 rfl ?_
    refine g_getI (pc := 59) (in_12 hX (by omega)) fr_X12_515 dX12_spreadTold_59 ?_
    refine g_goto (pc := 62) 82 dX12_spreadTold_62 rfl ?_
    have ho := Option.some.inj hf
    subst ho
    exact g_ireturn (pc := 82) (st := []) rfl dX12_spreadTold_82 hk
  replace hf := am_ifF c1 hf
  refine g_iload_n (pc := 65) 1 rfl dX12_spreadTold_65 rfl ?_
  refine g_iconst (pc := 66) (v := 1) dX12_spreadTold_66 (by decide) ?_
  refine bi_ne (pc := 67) 77 dX12_spreadTold_67 rfl (fun c2 => ?_) (fun c2 => ?_)
  · replace hf := am_ifT c2 hf
    refine g_aload_n (pc := 70) 0 rfl dX12_spreadTold_70 rfl ?_
    refine g_getI (pc := 71) (in_12 hX (by omega)) fr_X12_518 dX12_spreadTold_71 ?_
    refine g_goto (pc := 74) 82 dX12_spreadTold_74 rfl ?_
    have ho := Option.some.inj hf
    subst ho
    exact g_ireturn (pc := 82) (st := []) rfl dX12_spreadTold_82 hk
  replace hf := am_ifF c2 hf
  refine g_aload_n (pc := 77) 0 rfl dX12_spreadTold_77 rfl ?_
  refine g_getJ (pc := 78) (in_12 hX (by omega)) fr_X12_512 dX12_spreadTold_78 ?_
  refine g_l2i (pc := 81) dX12_spreadTold_81 ?_
  have ho := Option.some.inj hf
  subst ho
  exact g_ireturn (pc := 82) (st := []) rfl dX12_spreadTold_82 hk
noncomputable def f_X12_spreadTold (v1 : Int32) (σ : am_H) : Option (Int32 × am_H) :=
  (some (am_wI σ 12 0 1 0)).bind fun s1 =>
  (some (am_wI s1 12 0 0 0)).bind fun s2 =>
  (f_X12_isIn (Int32.toInt64 v1) 0 2 s2).bind fun p3 =>
  if p3 = true then
   (if (s2.1 12 0 39) = 0 then
    (f_X12_spreadTold_47 s2)
   else
   if v1 < 2 then
    (if (s2.1 12 0 32) < 0 then
     (f_X12_spreadTold_47 s2)
    else
    f_X12_spreadTold_54 v1 s2)
   else
   f_X12_spreadTold_54 v1 s2)
  else
  (f_X12_refuse 5 s2).bind fun p8 =>
  some (p8.1, p8.2)
set_option maxRecDepth 100000 in
set_option maxHeartbeats 4000000 in
theorem q_X12_spreadTold {X : am_X} (hX : am_ks X = am_ksM) {Q : Option Value → am_H → Prop} (v1 : Int32) (σ : am_H) {o : Int32 × am_H} (hf : f_X12_spreadTold v1 σ = some o) (hk : Q (some (.int o.1)) o.2) : am_G X gm_X12_spreadTold Q 0 [(0, .ref (am_ad X 12 0)), (1, .int v1)] [] σ := by
  unfold f_X12_spreadTold at hf
  refine g_aload_n (pc := 0) 0 rfl dX12_spreadTold_0 rfl ?_
  refine g_iconst (pc := 1) (v := 0) dX12_spreadTold_1 (by decide) ?_
  obtain ⟨s1, hs1, hf⟩ := am_bd hf
  refine g_setI (pc := 2) (in_12 hX (by omega)) fr_X12_122 dX12_spreadTold_2 (Option.some.inj hs1) ?_
  refine g_aload_n (pc := 5) 0 rfl dX12_spreadTold_5 rfl ?_
  refine g_iconst (pc := 6) (v := 0) dX12_spreadTold_6 (by decide) ?_
  obtain ⟨s2, hs2, hf⟩ := am_bd hf
  refine g_setI (pc := 7) (in_12 hX (by omega)) fr_X12_125 dX12_spreadTold_7 (Option.some.inj hs2) ?_
  refine g_iload_n (pc := 10) 1 rfl dX12_spreadTold_10 rfl ?_
  refine g_i2l (pc := 11) dX12_spreadTold_11 ?_
  refine g_lconst (pc := 12) (v := 0) dX12_spreadTold_12 (by decide) ?_
  refine g_ldc2 (pc := 13) (v := 2) (tb_9 (List.mem_of_getElem? (i := 85) (by decide +kernel))) dX12_spreadTold_13 ?_
  obtain ⟨p3, hp3, hf⟩ := am_bd hf
  refine g_cS (pc := 16) (As := [.long (Int32.toInt64 v1), .long 0, .long 2]) (st := []) (st1 := [.int (am_b p3)]) mS_X12_isIn ln_X12_239 rfl (Nat.le_of_ble_eq_true rfl) (Nat.le_of_ble_eq_true rfl) (k_X12_isIn hX (Int32.toInt64 v1) 0 2 s2 hp3) dX12_spreadTold_16 rfl rfl ?_
  refine bt_ne (pc := 19) 28 dX12_spreadTold_19 rfl (fun c4 => ?_) (fun c4 => ?_)
  · replace hf := am_ifT c4 hf
    refine g_aload_n (pc := 28) 0 rfl dX12_spreadTold_28 rfl ?_
    refine g_getZ (pc := 29) (in_12 hX (by omega)) fr_X12_521 dX12_spreadTold_29 ?_
    refine bz_eq (pc := 32) 47 dX12_spreadTold_32 rfl (fun c5 => ?_) (fun c5 => ?_)
    · replace hf := am_ifT c5 hf
      exact am_sub [0] rfl (q_X12_spreadTold_47 hX s2 hf hk)
    replace hf := am_ifF c5 hf
    refine g_iload_n (pc := 35) 1 rfl dX12_spreadTold_35 rfl ?_
    refine g_iconst (pc := 36) (v := 2) dX12_spreadTold_36 (by decide) ?_
    refine bi_ge (pc := 37) 54 dX12_spreadTold_37 rfl (fun c6 => ?_) (fun c6 => ?_)
    · replace hf := am_ifT c6 hf
      refine g_aload_n (pc := 40) 0 rfl dX12_spreadTold_40 rfl ?_
      refine g_getI (pc := 41) (in_12 hX (by omega)) fr_X12_56 dX12_spreadTold_41 ?_
      refine bz_ge (pc := 44) 54 dX12_spreadTold_44 rfl (fun c7 => ?_) (fun c7 => ?_)
      · replace hf := am_ifT c7 hf
        exact am_sub [0] rfl (q_X12_spreadTold_47 hX s2 hf hk)
      replace hf := am_ifF c7 hf
      exact q_X12_spreadTold_54 hX v1 s2 hf hk
    replace hf := am_ifF c6 hf
    exact q_X12_spreadTold_54 hX v1 s2 hf hk
  replace hf := am_ifF c4 hf
  refine g_aload_n (pc := 22) 0 rfl dX12_spreadTold_22 rfl ?_
  refine g_iconst (pc := 23) (v := 5) dX12_spreadTold_23 (by decide) ?_
  obtain ⟨p8, hp8, hf⟩ := am_bd hf
  refine g_cV (pc := 24) (As := [.int 5]) (st := []) (st1 := [.int p8.1]) (in_12 hX (by omega)) kk_12 mV_X12_refuse ln_X12_283 rfl (Nat.le_of_ble_eq_true rfl) (Nat.le_of_ble_eq_true rfl) (k_X12_refuse hX 5 s2 hp8) dX12_spreadTold_24 rfl rfl ?_
  have ho := Option.some.inj hf
  subst ho
  exact g_ireturn (pc := 27) (st := []) rfl dX12_spreadTold_27 hk
theorem k_X12_spreadTold {X : am_X} (hX : am_ks X = am_ksM) (v1 : Int32) (σ : am_H) {o : Int32 × am_H} (hf : f_X12_spreadTold v1 σ = some o) : am_C X gm_X12_spreadTold [.ref (am_ad X 12 0), .int v1] σ (am_is (some (.int o.1)) o.2) :=
  am_ofG rfl (Nat.le_of_ble_eq_true rfl) rfl (q_X12_spreadTold hX v1 σ hf ⟨rfl, rfl⟩)
theorem dX12_compare_0 : decode cX12_compare 0 = .ok (.aload_n 0, 1) := by decide +kernel
theorem dX12_compare_1 : decode cX12_compare 1 = .ok (.iconst 0, 1) := by decide +kernel
theorem dX12_compare_2 : decode cX12_compare 2 = .ok (.putfield 122, 3) := by decide +kernel
theorem dX12_compare_5 : decode cX12_compare 5 = .ok (.aload_n 0, 1) := by decide +kernel
theorem dX12_compare_6 : decode cX12_compare 6 = .ok (.iconst 0, 1) := by decide +kernel
theorem dX12_compare_7 : decode cX12_compare 7 = .ok (.putfield 125, 3) := by decide +kernel
theorem dX12_compare_10 : decode cX12_compare 10 = .ok (.iload_n 1, 1) := by decide +kernel
theorem dX12_compare_11 : decode cX12_compare 11 = .ok (.iload_n 2, 1) := by decide +kernel
theorem dX12_compare_12 : decode cX12_compare 12 = .ok (.sipush 2000, 3) := by decide +kernel
theorem dX12_compare_15 : decode cX12_compare 15 = .ok (.invokestatic 474, 3) := by decide +kernel
theorem dX12_compare_18 : decode cX12_compare 18 = .ok (.ifCond .eq 15, 3) := by decide +kernel
theorem dX12_compare_21 : decode cX12_compare 21 = .ok (.iload_n 3, 1) := by decide +kernel
theorem dX12_compare_22 : decode cX12_compare 22 = .ok (.i2l, 1) := by decide +kernel
theorem dX12_compare_23 : decode cX12_compare 23 = .ok (.lconst 0, 1) := by decide +kernel
theorem dX12_compare_24 : decode cX12_compare 24 = .ok (.ldc2_w 295, 3) := by decide +kernel
theorem dX12_compare_27 : decode cX12_compare 27 = .ok (.invokestatic 239, 3) := by decide +kernel
theorem dX12_compare_30 : decode cX12_compare 30 = .ok (.ifCond .ne 9, 3) := by decide +kernel
theorem dX12_compare_33 : decode cX12_compare 33 = .ok (.aload_n 0, 1) := by decide +kernel
theorem dX12_compare_34 : decode cX12_compare 34 = .ok (.iconst 5, 1) := by decide +kernel
theorem dX12_compare_35 : decode cX12_compare 35 = .ok (.invokevirtual 283, 3) := by decide +kernel
theorem dX12_compare_38 : decode cX12_compare 38 = .ok (.ireturn, 1) := by decide +kernel
theorem dX12_compare_39 : decode cX12_compare 39 = .ok (.iload_n 1, 1) := by decide +kernel
theorem dX12_compare_40 : decode cX12_compare 40 = .ok (.istore 4, 2) := by decide +kernel
theorem dX12_compare_42 : decode cX12_compare 42 = .ok (.iload 4, 2) := by decide +kernel
theorem dX12_compare_44 : decode cX12_compare 44 = .ok (.iload_n 2, 1) := by decide +kernel
theorem dX12_compare_45 : decode cX12_compare 45 = .ok (.if_icmp .gt 36, 3) := by decide +kernel
theorem dX12_compare_48 : decode cX12_compare 48 = .ok (.aload_n 0, 1) := by decide +kernel
theorem dX12_compare_49 : decode cX12_compare 49 = .ok (.iconst 0, 1) := by decide +kernel
theorem dX12_compare_50 : decode cX12_compare 50 = .ok (.iload 4, 2) := by decide +kernel
theorem dX12_compare_52 : decode cX12_compare 52 = .ok (.iconst 1, 1) := by decide +kernel
theorem dX12_compare_53 : decode cX12_compare 53 = .ok (.invokevirtual 334, 3) := by decide +kernel
theorem dX12_compare_56 : decode cX12_compare 56 = .ok (.aload_n 0, 1) := by decide +kernel
theorem dX12_compare_57 : decode cX12_compare 57 = .ok (.iconst 1, 1) := by decide +kernel
theorem dX12_compare_58 : decode cX12_compare 58 = .ok (.iload 4, 2) := by decide +kernel
theorem dX12_compare_60 : decode cX12_compare 60 = .ok (.iconst 1, 1) := by decide +kernel
theorem dX12_compare_61 : decode cX12_compare 61 = .ok (.invokevirtual 334, 3) := by decide +kernel
theorem dX12_compare_64 : decode cX12_compare 64 = .ok (.isub, 1) := by decide +kernel
theorem dX12_compare_65 : decode cX12_compare 65 = .ok (.invokestatic 507, 3) := by decide +kernel
theorem dX12_compare_68 : decode cX12_compare 68 = .ok (.iload_n 3, 1) := by decide +kernel
theorem dX12_compare_69 : decode cX12_compare 69 = .ok (.if_icmp .le 6, 3) := by decide +kernel
theorem dX12_compare_72 : decode cX12_compare 72 = .ok (.iload 4, 2) := by decide +kernel
theorem dX12_compare_74 : decode cX12_compare 74 = .ok (.ireturn, 1) := by decide +kernel
theorem dX12_compare_75 : decode cX12_compare 75 = .ok (.iinc 4 1, 3) := by decide +kernel
theorem dX12_compare_78 : decode cX12_compare 78 = .ok (.goto (-36), 3) := by decide +kernel
theorem dX12_compare_81 : decode cX12_compare 81 = .ok (.iconst (-1), 1) := by decide +kernel
theorem dX12_compare_82 : decode cX12_compare 82 = .ok (.ireturn, 1) := by decide +kernel
noncomputable def f_X12_compare_42 (v2 : Int32) (v3 : Int32) (v4 : Int32) (σ : am_H) : Option ((Int32) ⊕ ((Int32) ⊕ (Unit))) :=
  if v2 < v4 then
   (some (.inr (.inr ())))
  else
  (f_X12_heightOf 0 v4 true σ).bind fun p2 =>
  (f_X12_heightOf 1 v4 true σ).bind fun p3 =>
  if v3 < (am_ab (p2 - p3)) then
   (some (.inr (.inl v4)))
  else
  some (.inl (v4 + 1))
set_option maxRecDepth 100000 in
set_option maxHeartbeats 4000000 in
theorem q_X12_compare_42 {X : am_X} (hX : am_ks X = am_ksM) {Q : Option Value → am_H → Prop} (v2 : Int32) (v3 : Int32) (v4 : Int32) (σ : am_H) {o : (Int32) ⊕ ((Int32) ⊕ (Unit))} (hf : f_X12_compare_42 v2 v3 v4 σ = some o) (hk0 : ∀ s, o = .inl s → am_G X gm_X12_compare Q 42 [(0, .ref (am_ad X 12 0)), (2, .int v2), (3, .int v3), (4, .int s)] [] σ) (hk1 : ∀ t, o = .inr (.inl t) → am_G X gm_X12_compare Q 72 [(4, .int t)] [] σ) (hk2 : ∀ t, o = .inr (.inr t) → am_G X gm_X12_compare Q 81 [] [] σ) : am_G X gm_X12_compare Q 42 [(0, .ref (am_ad X 12 0)), (2, .int v2), (3, .int v3), (4, .int v4)] [] σ := by
  unfold f_X12_compare_42 at hf
  refine g_iload (pc := 42) 3 rfl dX12_compare_42 ?_
  refine g_iload_n (pc := 44) 1 rfl dX12_compare_44 rfl ?_
  refine bi_gt (pc := 45) 81 dX12_compare_45 rfl (fun c1 => ?_) (fun c1 => ?_)
  · replace hf := am_ifT c1 hf
    have hz := hk2 _ (Option.some.inj hf).symm
    exact am_sub [] rfl hz
  replace hf := am_ifF c1 hf
  refine g_aload_n (pc := 48) 0 rfl dX12_compare_48 rfl ?_
  refine g_iconst (pc := 49) (v := 0) dX12_compare_49 (by decide) ?_
  refine g_iload (pc := 50) 3 rfl dX12_compare_50 ?_
  refine g_iconst (pc := 52) (v := 1) dX12_compare_52 (by decide) ?_
  obtain ⟨p2, hp2, hf⟩ := am_bd hf
  refine g_cV (pc := 53) (As := [.int 0, .int v4, .int (am_b true)]) (st := []) (st1 := [.int p2]) (in_12 hX (by omega)) kk_12 mV_X12_heightOf ln_X12_334 rfl (Nat.le_of_ble_eq_true rfl) (Nat.le_of_ble_eq_true rfl) (k_X12_heightOf hX 0 v4 true σ hp2) dX12_compare_53 rfl rfl ?_
  refine g_aload_n (pc := 56) 0 rfl dX12_compare_56 rfl ?_
  refine g_iconst (pc := 57) (v := 1) dX12_compare_57 (by decide) ?_
  refine g_iload (pc := 58) 3 rfl dX12_compare_58 ?_
  refine g_iconst (pc := 60) (v := 1) dX12_compare_60 (by decide) ?_
  obtain ⟨p3, hp3, hf⟩ := am_bd hf
  refine g_cV (pc := 61) (As := [.int 1, .int v4, .int (am_b true)]) (st := [.int p2]) (st1 := [.int p3, .int p2]) (in_12 hX (by omega)) kk_12 mV_X12_heightOf ln_X12_334 rfl (Nat.le_of_ble_eq_true rfl) (Nat.le_of_ble_eq_true rfl) (k_X12_heightOf hX 1 v4 true σ hp3) dX12_compare_61 rfl rfl ?_
  refine g_isub (pc := 64) dX12_compare_64 ?_
  refine g_mabs (pc := 65) (Nat.le_of_ble_eq_true rfl) (Nat.le_of_ble_eq_true rfl) sp_X12_507 dX12_compare_65 ?_
  refine g_iload_n (pc := 68) 2 rfl dX12_compare_68 rfl ?_
  refine bi_le (pc := 69) 75 dX12_compare_69 rfl (fun c4 => ?_) (fun c4 => ?_)
  · replace hf := am_ifT c4 hf
    have hz := hk1 _ (Option.some.inj hf).symm
    exact am_sub [3] rfl hz
  replace hf := am_ifF c4 hf
  refine g_iinc (pc := 75) (v := (v4 + 1)) 3 [(4, .int (v4 + 1)), (0, .ref (am_ad X 12 0)), (2, .int v2), (3, .int v3)] dX12_compare_75 rfl rfl (Nat.le_of_ble_eq_true rfl) rfl ?_
  refine g_goto (pc := 78) 42 dX12_compare_78 rfl ?_
  have hz := hk0 _ (Option.some.inj hf).symm
  exact am_sub [1, 2, 3, 0] rfl hz
set_option maxRecDepth 100000 in
set_option maxHeartbeats 4000000 in
theorem l_X12_compare_42 {X : am_X} (hX : am_ks X = am_ksM) {Q : Option Value → am_H → Prop} (v2 : Int32) (v3 : Int32) (σ : am_H) (s : Int32) {o : (Int32) ⊕ (Unit)} (hf : am_loop (fun s => f_X12_compare_42 v2 v3 s σ) s = some o) (hk1 : ∀ t, o = (.inl t) → am_G X gm_X12_compare Q 72 [(4, .int t)] [] σ) (hk2 : ∀ t, o = (.inr t) → am_G X gm_X12_compare Q 81 [] [] σ) : am_G X gm_X12_compare Q 42 [(0, .ref (am_ad X 12 0)), (2, .int v2), (3, .int v3), (4, .int s)] [] σ := by
  refine am_loop_ind (P := fun s => am_G X gm_X12_compare Q 42 [(0, .ref (am_ad X 12 0)), (2, .int v2), (3, .int v3), (4, .int s)] [] σ) (K := fun r => r = o) ?_ hf rfl
  intro s o1 hb hi hr
  exact q_X12_compare_42 hX v2 v3 s  σ hb hi (fun t e => hk1 t (hr _ e).symm) (fun t e => hk2 t (hr _ e).symm)
noncomputable def f_X12_compare_33 (σ : am_H) : Option (Int32 × am_H) :=
  (f_X12_refuse 5 σ).bind fun p1 =>
  some (p1.1, p1.2)
set_option maxRecDepth 100000 in
set_option maxHeartbeats 4000000 in
theorem q_X12_compare_33 {X : am_X} (hX : am_ks X = am_ksM) {Q : Option Value → am_H → Prop} (σ : am_H) {o : Int32 × am_H} (hf : f_X12_compare_33 σ = some o) (hk : Q (some (.int o.1)) o.2) : am_G X gm_X12_compare Q 33 [(0, .ref (am_ad X 12 0))] [] σ := by
  unfold f_X12_compare_33 at hf
  refine g_aload_n (pc := 33) 0 rfl dX12_compare_33 rfl ?_
  refine g_iconst (pc := 34) (v := 5) dX12_compare_34 (by decide) ?_
  obtain ⟨p1, hp1, hf⟩ := am_bd hf
  refine g_cV (pc := 35) (As := [.int 5]) (st := []) (st1 := [.int p1.1]) (in_12 hX (by omega)) kk_12 mV_X12_refuse ln_X12_283 rfl (Nat.le_of_ble_eq_true rfl) (Nat.le_of_ble_eq_true rfl) (k_X12_refuse hX 5 σ hp1) dX12_compare_35 rfl rfl ?_
  have ho := Option.some.inj hf
  subst ho
  exact g_ireturn (pc := 38) (st := []) rfl dX12_compare_38 hk
noncomputable def f_X12_compare (v1 : Int32) (v2 : Int32) (v3 : Int32) (σ : am_H) : Option (Int32 × am_H) :=
  (some (am_wI σ 12 0 1 0)).bind fun s1 =>
  (some (am_wI s1 12 0 0 0)).bind fun s2 =>
  (f_X12_isSpan v1 v2 2000 s2).bind fun p3 =>
  if p3 = true then
   ((f_X12_isIn (Int32.toInt64 v3) 0 99999 s2).bind fun p5 =>
   if p5 = true then
    ((am_loop (fun s => f_X12_compare_42 v2 v3 s s2) v1).bind fun w7 =>
    Sum.elim (fun t7_0 =>
     some (t7_0, s2)) (fun u7_0 =>
     some ((-1), s2)) w7)
   else
   f_X12_compare_33 s2)
  else
  f_X12_compare_33 s2
set_option maxRecDepth 100000 in
set_option maxHeartbeats 4000000 in
theorem q_X12_compare {X : am_X} (hX : am_ks X = am_ksM) {Q : Option Value → am_H → Prop} (v1 : Int32) (v2 : Int32) (v3 : Int32) (σ : am_H) {o : Int32 × am_H} (hf : f_X12_compare v1 v2 v3 σ = some o) (hk : Q (some (.int o.1)) o.2) : am_G X gm_X12_compare Q 0 [(0, .ref (am_ad X 12 0)), (1, .int v1), (2, .int v2), (3, .int v3)] [] σ := by
  unfold f_X12_compare at hf
  refine g_aload_n (pc := 0) 0 rfl dX12_compare_0 rfl ?_
  refine g_iconst (pc := 1) (v := 0) dX12_compare_1 (by decide) ?_
  obtain ⟨s1, hs1, hf⟩ := am_bd hf
  refine g_setI (pc := 2) (in_12 hX (by omega)) fr_X12_122 dX12_compare_2 (Option.some.inj hs1) ?_
  refine g_aload_n (pc := 5) 0 rfl dX12_compare_5 rfl ?_
  refine g_iconst (pc := 6) (v := 0) dX12_compare_6 (by decide) ?_
  obtain ⟨s2, hs2, hf⟩ := am_bd hf
  refine g_setI (pc := 7) (in_12 hX (by omega)) fr_X12_125 dX12_compare_7 (Option.some.inj hs2) ?_
  refine g_iload_n (pc := 10) 1 rfl dX12_compare_10 rfl ?_
  refine g_iload_n (pc := 11) 2 rfl dX12_compare_11 rfl ?_
  refine g_sipush (pc := 12) (v := 2000) dX12_compare_12 (by decide) ?_
  obtain ⟨p3, hp3, hf⟩ := am_bd hf
  refine g_cS (pc := 15) (As := [.int v1, .int v2, .int 2000]) (st := []) (st1 := [.int (am_b p3)]) mS_X12_isSpan ln_X12_474 rfl (Nat.le_of_ble_eq_true rfl) (Nat.le_of_ble_eq_true rfl) (k_X12_isSpan hX v1 v2 2000 s2 hp3) dX12_compare_15 rfl rfl ?_
  refine bt_eq (pc := 18) 33 dX12_compare_18 rfl (fun c4 => ?_) (fun c4 => ?_)
  · replace hf := am_ifT c4 hf
    refine g_iload_n (pc := 21) 3 rfl dX12_compare_21 rfl ?_
    refine g_i2l (pc := 22) dX12_compare_22 ?_
    refine g_lconst (pc := 23) (v := 0) dX12_compare_23 (by decide) ?_
    refine g_ldc2 (pc := 24) (v := 99999) (tb_9 (List.mem_of_getElem? (i := 34) (by decide +kernel))) dX12_compare_24 ?_
    obtain ⟨p5, hp5, hf⟩ := am_bd hf
    refine g_cS (pc := 27) (As := [.long (Int32.toInt64 v3), .long 0, .long 99999]) (st := []) (st1 := [.int (am_b p5)]) mS_X12_isIn ln_X12_239 rfl (Nat.le_of_ble_eq_true rfl) (Nat.le_of_ble_eq_true rfl) (k_X12_isIn hX (Int32.toInt64 v3) 0 99999 s2 hp5) dX12_compare_27 rfl rfl ?_
    refine bt_ne (pc := 30) 39 dX12_compare_30 rfl (fun c6 => ?_) (fun c6 => ?_)
    · replace hf := am_ifT c6 hf
      refine g_iload_n (pc := 39) 1 rfl dX12_compare_39 rfl ?_
      refine g_istore (pc := 40) [(4, .int v1), (0, .ref (am_ad X 12 0)), (1, .int v1), (2, .int v2), (3, .int v3)] dX12_compare_40 (Nat.le_of_ble_eq_true rfl) rfl ?_
      obtain ⟨w7, hw7, hf⟩ := am_bd hf
      refine am_sub [1, 3, 4, 0] rfl (l_X12_compare_42 hX v2 v3  s2 v1 hw7 ?_ ?_)
      · intro t7_0 e
        subst e
        replace hf := am_elL hf
        refine g_iload (pc := 72) 0 rfl dX12_compare_72 ?_
        have ho := Option.some.inj hf
        subst ho
        exact g_ireturn (pc := 74) (st := []) rfl dX12_compare_74 hk
      · intro u7_0 e
        subst e
        replace hf := am_elR hf
        refine g_iconst (pc := 81) (v := (-1)) dX12_compare_81 (by decide) ?_
        have ho := Option.some.inj hf
        subst ho
        exact g_ireturn (pc := 82) (st := []) rfl dX12_compare_82 hk
    replace hf := am_ifF c6 hf
    exact am_sub [0] rfl (q_X12_compare_33 hX s2 hf hk)
  replace hf := am_ifF c4 hf
  exact am_sub [0] rfl (q_X12_compare_33 hX s2 hf hk)
theorem k_X12_compare {X : am_X} (hX : am_ks X = am_ksM) (v1 : Int32) (v2 : Int32) (v3 : Int32) (σ : am_H) {o : Int32 × am_H} (hf : f_X12_compare v1 v2 v3 σ = some o) : am_C X gm_X12_compare [.ref (am_ad X 12 0), .int v1, .int v2, .int v3] σ (am_is (some (.int o.1)) o.2) :=
  am_ofG rfl (Nat.le_of_ble_eq_true rfl) rfl (q_X12_compare hX v1 v2 v3 σ hf ⟨rfl, rfl⟩)
theorem dX12_isDay_0 : decode cX12_isDay 0 = .ok (.iload_n 0, 1) := by decide +kernel
theorem dX12_isDay_1 : decode cX12_isDay 1 = .ok (.i2l, 1) := by decide +kernel
theorem dX12_isDay_2 : decode cX12_isDay 2 = .ok (.lconst 0, 1) := by decide +kernel
theorem dX12_isDay_3 : decode cX12_isDay 3 = .ok (.ldc2_w 524, 3) := by decide +kernel
theorem dX12_isDay_6 : decode cX12_isDay 6 = .ok (.invokestatic 239, 3) := by decide +kernel
theorem dX12_isDay_9 : decode cX12_isDay 9 = .ok (.ireturn, 1) := by decide +kernel
noncomputable def f_X12_isDay (v0 : Int32) (σ : am_H) : Option (Bool) :=
  (f_X12_isIn (Int32.toInt64 v0) 0 4166 σ).bind fun p1 =>
  some p1
set_option maxRecDepth 100000 in
set_option maxHeartbeats 4000000 in
theorem q_X12_isDay {X : am_X} (hX : am_ks X = am_ksM) {Q : Option Value → am_H → Prop} (v0 : Int32) (σ : am_H) {o : Bool} (hf : f_X12_isDay v0 σ = some o) (hk : Q (some (.int (am_b o))) σ) : am_G X gm_X12_isDay Q 0 [(0, .int v0)] [] σ := by
  unfold f_X12_isDay at hf
  refine g_iload_n (pc := 0) 0 rfl dX12_isDay_0 rfl ?_
  refine g_i2l (pc := 1) dX12_isDay_1 ?_
  refine g_lconst (pc := 2) (v := 0) dX12_isDay_2 (by decide) ?_
  refine g_ldc2 (pc := 3) (v := 4166) (tb_10 (List.mem_of_getElem? (i := 27) (by decide +kernel))) dX12_isDay_3 ?_
  obtain ⟨p1, hp1, hf⟩ := am_bd hf
  refine g_cS (pc := 6) (As := [.long (Int32.toInt64 v0), .long 0, .long 4166]) (st := []) (st1 := [.int (am_b p1)]) mS_X12_isIn ln_X12_239 rfl (Nat.le_of_ble_eq_true rfl) (Nat.le_of_ble_eq_true rfl) (k_X12_isIn hX (Int32.toInt64 v0) 0 4166 σ hp1) dX12_isDay_6 rfl rfl ?_
  have ho := Option.some.inj hf
  subst ho
  exact g_zreturn (pc := 9) (st := []) (x := p1) rfl dX12_isDay_9 hk
theorem k_X12_isDay {X : am_X} (hX : am_ks X = am_ksM) (v0 : Int32) (σ : am_H) {o : Bool} (hf : f_X12_isDay v0 σ = some o) : am_C X gm_X12_isDay [.int v0] σ (am_is (some (.int (am_b o))) σ) :=
  am_ofG rfl (Nat.le_of_ble_eq_true rfl) rfl (q_X12_isDay hX v0 σ hf ⟨rfl, rfl⟩)
theorem dX12_lastHour_0 : decode cX12_lastHour 0 = .ok (.ldc_w 526, 3) := by decide +kernel
theorem dX12_lastHour_3 : decode cX12_lastHour 3 = .ok (.bipush 24, 2) := by decide +kernel
theorem dX12_lastHour_5 : decode cX12_lastHour 5 = .ok (.iload_n 0, 1) := by decide +kernel
theorem dX12_lastHour_6 : decode cX12_lastHour 6 = .ok (.imul, 1) := by decide +kernel
theorem dX12_lastHour_7 : decode cX12_lastHour 7 = .ok (.bipush 23, 2) := by decide +kernel
theorem dX12_lastHour_9 : decode cX12_lastHour 9 = .ok (.iadd, 1) := by decide +kernel
theorem dX12_lastHour_10 : decode cX12_lastHour 10 = .ok (.invokestatic 477, 3) := by decide +kernel
theorem dX12_lastHour_13 : decode cX12_lastHour 13 = .ok (.ireturn, 1) := by decide +kernel
noncomputable def f_X12_lastHour (v0 : Int32) (σ : am_H) : Option (Int32) :=
  some (am_mn 99999 ((24 * v0) + 23))
set_option maxRecDepth 100000 in
set_option maxHeartbeats 4000000 in
theorem q_X12_lastHour {X : am_X} (hX : am_ks X = am_ksM) {Q : Option Value → am_H → Prop} (v0 : Int32) (σ : am_H) {o : Int32} (hf : f_X12_lastHour v0 σ = some o) (hk : Q (some (.int o)) σ) : am_G X gm_X12_lastHour Q 0 [(0, .int v0)] [] σ := by
  unfold f_X12_lastHour at hf
  refine g_ldcw (pc := 0) (v := 99999) (tb_10 (List.mem_of_getElem? (i := 31) (by decide +kernel))) dX12_lastHour_0 ?_
  refine g_bipush (pc := 3) (v := 24) dX12_lastHour_3 (by decide) ?_
  refine g_iload_n (pc := 5) 0 rfl dX12_lastHour_5 rfl ?_
  refine g_imul (pc := 6) dX12_lastHour_6 ?_
  refine g_bipush (pc := 7) (v := 23) dX12_lastHour_7 (by decide) ?_
  refine g_iadd (pc := 9) dX12_lastHour_9 ?_
  refine g_mmin (pc := 10) (Nat.le_of_ble_eq_true rfl) (Nat.le_of_ble_eq_true rfl) sp_X12_477 dX12_lastHour_10 ?_
  have ho := Option.some.inj hf
  subst ho
  exact g_ireturn (pc := 13) (st := []) rfl dX12_lastHour_13 hk
theorem k_X12_lastHour {X : am_X} (hX : am_ks X = am_ksM) (v0 : Int32) (σ : am_H) {o : Int32} (hf : f_X12_lastHour v0 σ = some o) : am_C X gm_X12_lastHour [.int v0] σ (am_is (some (.int o)) σ) :=
  am_ofG rfl (Nat.le_of_ble_eq_true rfl) rfl (q_X12_lastHour hX v0 σ hf ⟨rfl, rfl⟩)
theorem dX12_isWater_0 : decode cX12_isWater 0 = .ok (.iload_n 2, 1) := by decide +kernel
theorem dX12_isWater_1 : decode cX12_isWater 1 = .ok (.ifCond .gt 5, 3) := by decide +kernel
theorem dX12_isWater_4 : decode cX12_isWater 4 = .ok (.iconst 0, 1) := by decide +kernel
theorem dX12_isWater_5 : decode cX12_isWater 5 = .ok (.ireturn, 1) := by decide +kernel
theorem dX12_isWater_6 : decode cX12_isWater 6 = .ok (.aload_n 0, 1) := by decide +kernel
theorem dX12_isWater_7 : decode cX12_isWater 7 = .ok (.iload_n 1, 1) := by decide +kernel
theorem dX12_isWater_8 : decode cX12_isWater 8 = .ok (.iload_n 2, 1) := by decide +kernel
theorem dX12_isWater_9 : decode cX12_isWater 9 = .ok (.iload 4, 2) := by decide +kernel
theorem dX12_isWater_11 : decode cX12_isWater 11 = .ok (.invokevirtual 334, 3) := by decide +kernel
theorem dX12_isWater_14 : decode cX12_isWater 14 = .ok (.istore 5, 2) := by decide +kernel
theorem dX12_isWater_16 : decode cX12_isWater 16 = .ok (.aload_n 0, 1) := by decide +kernel
theorem dX12_isWater_17 : decode cX12_isWater 17 = .ok (.iload_n 1, 1) := by decide +kernel
theorem dX12_isWater_18 : decode cX12_isWater 18 = .ok (.iload_n 2, 1) := by decide +kernel
theorem dX12_isWater_19 : decode cX12_isWater 19 = .ok (.iconst 1, 1) := by decide +kernel
theorem dX12_isWater_20 : decode cX12_isWater 20 = .ok (.isub, 1) := by decide +kernel
theorem dX12_isWater_21 : decode cX12_isWater 21 = .ok (.iload 4, 2) := by decide +kernel
theorem dX12_isWater_23 : decode cX12_isWater 23 = .ok (.invokevirtual 334, 3) := by decide +kernel
theorem dX12_isWater_26 : decode cX12_isWater 26 = .ok (.istore 6, 2) := by decide +kernel
theorem dX12_isWater_28 : decode cX12_isWater 28 = .ok (.iload_n 3, 1) := by decide +kernel
theorem dX12_isWater_29 : decode cX12_isWater 29 = .ok (.ifCond .eq 13, 3) := by decide +kernel
theorem dX12_isWater_32 : decode cX12_isWater 32 = .ok (.iload 5, 2) := by decide +kernel
theorem dX12_isWater_34 : decode cX12_isWater 34 = .ok (.iload 6, 2) := by decide +kernel
theorem dX12_isWater_36 : decode cX12_isWater 36 = .ok (.if_icmp .gt 15, 3) := by decide +kernel
theorem dX12_isWater_39 : decode cX12_isWater 39 = .ok (.goto 10, 3) := by decide +kernel
theorem dX12_isWater_42 : decode cX12_isWater 42 = .ok (.iload 5, 2) := by decide +kernel
theorem dX12_isWater_44 : decode cX12_isWater 44 = .ok (.iload 6, 2) := by decide +kernel
theorem dX12_isWater_46 : decode cX12_isWater 46 = .ok (.if_icmp .lt 5, 3) := by decide +kernel
theorem dX12_isWater_49 : decode cX12_isWater 49 = .ok (.iconst 0, 1) := by decide +kernel
theorem dX12_isWater_50 : decode cX12_isWater 50 = .ok (.ireturn, 1) := by decide +kernel
theorem dX12_isWater_51 : decode cX12_isWater 51 = .ok (.iload_n 2, 1) := by decide +kernel
theorem dX12_isWater_52 : decode cX12_isWater 52 = .ok (.iconst 1, 1) := by decide +kernel
theorem dX12_isWater_53 : decode cX12_isWater 53 = .ok (.iadd, 1) := by decide +kernel
theorem dX12_isWater_54 : decode cX12_isWater 54 = .ok (.istore 7, 2) := by decide +kernel
theorem dX12_isWater_56 : decode cX12_isWater 56 = .ok (.iload 7, 2) := by decide +kernel
theorem dX12_isWater_58 : decode cX12_isWater 58 = .ok (.ldc_w 527, 3) := by decide +kernel
theorem dX12_isWater_61 : decode cX12_isWater 61 = .ok (.if_icmp .gt 49, 3) := by decide +kernel
theorem dX12_isWater_64 : decode cX12_isWater 64 = .ok (.aload_n 0, 1) := by decide +kernel
theorem dX12_isWater_65 : decode cX12_isWater 65 = .ok (.iload_n 1, 1) := by decide +kernel
theorem dX12_isWater_66 : decode cX12_isWater 66 = .ok (.iload 7, 2) := by decide +kernel
theorem dX12_isWater_68 : decode cX12_isWater 68 = .ok (.iload 4, 2) := by decide +kernel
theorem dX12_isWater_70 : decode cX12_isWater 70 = .ok (.invokevirtual 334, 3) := by decide +kernel
theorem dX12_isWater_73 : decode cX12_isWater 73 = .ok (.istore 8, 2) := by decide +kernel
theorem dX12_isWater_75 : decode cX12_isWater 75 = .ok (.iload 8, 2) := by decide +kernel
theorem dX12_isWater_77 : decode cX12_isWater 77 = .ok (.iload 5, 2) := by decide +kernel
theorem dX12_isWater_79 : decode cX12_isWater 79 = .ok (.if_icmp .eq 25, 3) := by decide +kernel
theorem dX12_isWater_82 : decode cX12_isWater 82 = .ok (.iload_n 3, 1) := by decide +kernel
theorem dX12_isWater_83 : decode cX12_isWater 83 = .ok (.iload 8, 2) := by decide +kernel
theorem dX12_isWater_85 : decode cX12_isWater 85 = .ok (.iload 5, 2) := by decide +kernel
theorem dX12_isWater_87 : decode cX12_isWater 87 = .ok (.if_icmp .ge 7, 3) := by decide +kernel
theorem dX12_isWater_90 : decode cX12_isWater 90 = .ok (.iconst 1, 1) := by decide +kernel
theorem dX12_isWater_91 : decode cX12_isWater 91 = .ok (.goto 4, 3) := by decide +kernel
theorem dX12_isWater_94 : decode cX12_isWater 94 = .ok (.iconst 0, 1) := by decide +kernel
theorem dX12_isWater_95 : decode cX12_isWater 95 = .ok (.if_icmp .ne 7, 3) := by decide +kernel
theorem dX12_isWater_98 : decode cX12_isWater 98 = .ok (.iconst 1, 1) := by decide +kernel
theorem dX12_isWater_99 : decode cX12_isWater 99 = .ok (.goto 4, 3) := by decide +kernel
theorem dX12_isWater_102 : decode cX12_isWater 102 = .ok (.iconst 0, 1) := by decide +kernel
theorem dX12_isWater_103 : decode cX12_isWater 103 = .ok (.ireturn, 1) := by decide +kernel
theorem dX12_isWater_104 : decode cX12_isWater 104 = .ok (.iinc 7 1, 3) := by decide +kernel
theorem dX12_isWater_107 : decode cX12_isWater 107 = .ok (.goto (-51), 3) := by decide +kernel
theorem dX12_isWater_110 : decode cX12_isWater 110 = .ok (.iconst 0, 1) := by decide +kernel
theorem dX12_isWater_111 : decode cX12_isWater 111 = .ok (.ireturn, 1) := by decide +kernel
noncomputable def f_X12_isWater_56 (v1 : Int32) (v3 : Bool) (v4 : Bool) (v5 : Int32) (v7 : Int32) (σ : am_H) : Option ((Int32) ⊕ ((Int32) ⊕ (Unit))) :=
  if 100100 < v7 then
   (some (.inr (.inr ())))
  else
  (f_X12_heightOf v1 v7 v4 σ).bind fun p2 =>
  if p2 = v5 then
   (some (.inl (v7 + 1)))
  else
  some (.inr (.inl p2))
set_option maxRecDepth 100000 in
set_option maxHeartbeats 4000000 in
theorem q_X12_isWater_56 {X : am_X} (hX : am_ks X = am_ksM) {Q : Option Value → am_H → Prop} (v1 : Int32) (v3 : Bool) (v4 : Bool) (v5 : Int32) (v7 : Int32) (σ : am_H) {o : (Int32) ⊕ ((Int32) ⊕ (Unit))} (hf : f_X12_isWater_56 v1 v3 v4 v5 v7 σ = some o) (hk0 : ∀ s, o = .inl s → am_G X gm_X12_isWater Q 56 [(0, .ref (am_ad X 12 0)), (1, .int v1), (3, .int (am_b v3)), (4, .int (am_b v4)), (5, .int v5), (7, .int s)] [] σ) (hk1 : ∀ t, o = .inr (.inl t) → am_G X gm_X12_isWater Q 82 [(3, .int (am_b v3)), (5, .int v5), (8, .int t)] [] σ) (hk2 : ∀ t, o = .inr (.inr t) → am_G X gm_X12_isWater Q 110 [] [] σ) : am_G X gm_X12_isWater Q 56 [(0, .ref (am_ad X 12 0)), (1, .int v1), (3, .int (am_b v3)), (4, .int (am_b v4)), (5, .int v5), (7, .int v7)] [] σ := by
  unfold f_X12_isWater_56 at hf
  refine g_iload (pc := 56) 5 rfl dX12_isWater_56 ?_
  refine g_ldcw (pc := 58) (v := 100100) (tb_10 (List.mem_of_getElem? (i := 36) (by decide +kernel))) dX12_isWater_58 ?_
  refine bi_gt (pc := 61) 110 dX12_isWater_61 rfl (fun c1 => ?_) (fun c1 => ?_)
  · replace hf := am_ifT c1 hf
    have hz := hk2 _ (Option.some.inj hf).symm
    exact am_sub [] rfl hz
  replace hf := am_ifF c1 hf
  refine g_aload_n (pc := 64) 0 rfl dX12_isWater_64 rfl ?_
  refine g_iload_n (pc := 65) 1 rfl dX12_isWater_65 rfl ?_
  refine g_iload (pc := 66) 5 rfl dX12_isWater_66 ?_
  refine g_iload (pc := 68) 3 rfl dX12_isWater_68 ?_
  obtain ⟨p2, hp2, hf⟩ := am_bd hf
  refine g_cV (pc := 70) (As := [.int v1, .int v7, .int (am_b v4)]) (st := []) (st1 := [.int p2]) (in_12 hX (by omega)) kk_12 mV_X12_heightOf ln_X12_334 rfl (Nat.le_of_ble_eq_true rfl) (Nat.le_of_ble_eq_true rfl) (k_X12_heightOf hX v1 v7 v4 σ hp2) dX12_isWater_70 rfl rfl ?_
  refine g_istore (pc := 73) [(8, .int p2), (0, .ref (am_ad X 12 0)), (1, .int v1), (3, .int (am_b v3)), (4, .int (am_b v4)), (5, .int v5), (7, .int v7)] dX12_isWater_73 (Nat.le_of_ble_eq_true rfl) rfl ?_
  refine g_iload (pc := 75) 0 rfl dX12_isWater_75 ?_
  refine g_iload (pc := 77) 5 rfl dX12_isWater_77 ?_
  refine bi_eq (pc := 79) 104 dX12_isWater_79 rfl (fun c3 => ?_) (fun c3 => ?_)
  · replace hf := am_ifT c3 hf
    refine g_iinc (pc := 104) (v := (v7 + 1)) 6 [(7, .int (v7 + 1)), (8, .int p2), (0, .ref (am_ad X 12 0)), (1, .int v1), (3, .int (am_b v3)), (4, .int (am_b v4)), (5, .int v5)] dX12_isWater_104 rfl rfl (Nat.le_of_ble_eq_true rfl) rfl ?_
    refine g_goto (pc := 107) 56 dX12_isWater_107 rfl ?_
    have hz := hk0 _ (Option.some.inj hf).symm
    exact am_sub [2, 3, 4, 5, 6, 0] rfl hz
  replace hf := am_ifF c3 hf
  have hz := hk1 _ (Option.some.inj hf).symm
  exact am_sub [3, 5, 0] rfl hz
set_option maxRecDepth 100000 in
set_option maxHeartbeats 4000000 in
theorem l_X12_isWater_56 {X : am_X} (hX : am_ks X = am_ksM) {Q : Option Value → am_H → Prop} (v1 : Int32) (v3 : Bool) (v4 : Bool) (v5 : Int32) (σ : am_H) (s : Int32) {o : (Int32) ⊕ (Unit)} (hf : am_loop (fun s => f_X12_isWater_56 v1 v3 v4 v5 s σ) s = some o) (hk1 : ∀ t, o = (.inl t) → am_G X gm_X12_isWater Q 82 [(3, .int (am_b v3)), (5, .int v5), (8, .int t)] [] σ) (hk2 : ∀ t, o = (.inr t) → am_G X gm_X12_isWater Q 110 [] [] σ) : am_G X gm_X12_isWater Q 56 [(0, .ref (am_ad X 12 0)), (1, .int v1), (3, .int (am_b v3)), (4, .int (am_b v4)), (5, .int v5), (7, .int s)] [] σ := by
  refine am_loop_ind (P := fun s => am_G X gm_X12_isWater Q 56 [(0, .ref (am_ad X 12 0)), (1, .int v1), (3, .int (am_b v3)), (4, .int (am_b v4)), (5, .int v5), (7, .int s)] [] σ) (K := fun r => r = o) ?_ hf rfl
  intro s o1 hb hi hr
  exact q_X12_isWater_56 hX v1 v3 v4 v5 s  σ hb hi (fun t e => hk1 t (hr _ e).symm) (fun t e => hk2 t (hr _ e).symm)
noncomputable def f_X12_isWater_95 (k0 : Bool) (k1 : Bool) (σ : am_H) : Option (Bool) :=
  if (am_b k0) = (am_b k1) then
   (some true)
  else
  some false
set_option maxRecDepth 100000 in
set_option maxHeartbeats 4000000 in
theorem q_X12_isWater_95 {X : am_X} (hX : am_ks X = am_ksM) {Q : Option Value → am_H → Prop} (k0 : Bool) (k1 : Bool) (σ : am_H) {o : Bool} (hf : f_X12_isWater_95 k0 k1 σ = some o) (hk : Q (some (.int (am_b o))) σ) : am_G X gm_X12_isWater Q 95 [] [.int (am_b k1), .int (am_b k0)] σ := by
  unfold f_X12_isWater_95 at hf
  refine bi_ne (pc := 95) 102 dX12_isWater_95 rfl (fun c1 => ?_) (fun c1 => ?_)
  · replace hf := am_ifT c1 hf
    refine g_iconst (pc := 98) (v := 1) dX12_isWater_98 (by decide) ?_
    refine g_goto (pc := 99) 103 dX12_isWater_99 rfl ?_
    have ho := Option.some.inj hf
    subst ho
    exact g_zreturn (pc := 103) (st := []) (x := true) rfl dX12_isWater_103 hk
  replace hf := am_ifF c1 hf
  refine g_iconst (pc := 102) (v := 0) dX12_isWater_102 (by decide) ?_
  have ho := Option.some.inj hf
  subst ho
  exact g_zreturn (pc := 103) (st := []) (x := false) rfl dX12_isWater_103 hk
noncomputable def f_X12_isWater (v1 : Int32) (v2 : Int32) (v3 : Bool) (v4 : Bool) (σ : am_H) : Option (Bool) :=
  if 0 < v2 then
   ((f_X12_heightOf v1 v2 v4 σ).bind fun p2 =>
   (f_X12_heightOf v1 (v2 - 1) v4 σ).bind fun p3 =>
   if v3 = true then
    (if p3 < p2 then
     ((am_loop (fun s => f_X12_isWater_56 v1 v3 v4 p2 s σ) (v2 + 1)).bind fun w6 =>
     Sum.elim (fun t6_0 =>
      if t6_0 < p2 then
       (f_X12_isWater_95 v3 true σ)
      else
      f_X12_isWater_95 v3 false σ) (fun u6_0 =>
      some false) w6)
    else
    some false)
   else
   if p2 < p3 then
    ((am_loop (fun s => f_X12_isWater_56 v1 v3 v4 p2 s σ) (v2 + 1)).bind fun w9 =>
    Sum.elim (fun t9_0 =>
     if t9_0 < p2 then
      (f_X12_isWater_95 v3 true σ)
     else
     f_X12_isWater_95 v3 false σ) (fun u9_0 =>
     some false) w9)
   else
   some false)
  else
  some false
set_option maxRecDepth 100000 in
set_option maxHeartbeats 4000000 in
theorem q_X12_isWater {X : am_X} (hX : am_ks X = am_ksM) {Q : Option Value → am_H → Prop} (v1 : Int32) (v2 : Int32) (v3 : Bool) (v4 : Bool) (σ : am_H) {o : Bool} (hf : f_X12_isWater v1 v2 v3 v4 σ = some o) (hk : Q (some (.int (am_b o))) σ) : am_G X gm_X12_isWater Q 0 [(0, .ref (am_ad X 12 0)), (1, .int v1), (2, .int v2), (3, .int (am_b v3)), (4, .int (am_b v4))] [] σ := by
  unfold f_X12_isWater at hf
  refine g_iload_n (pc := 0) 2 rfl dX12_isWater_0 rfl ?_
  refine bz_gt (pc := 1) 6 dX12_isWater_1 rfl (fun c1 => ?_) (fun c1 => ?_)
  · replace hf := am_ifT c1 hf
    refine g_aload_n (pc := 6) 0 rfl dX12_isWater_6 rfl ?_
    refine g_iload_n (pc := 7) 1 rfl dX12_isWater_7 rfl ?_
    refine g_iload_n (pc := 8) 2 rfl dX12_isWater_8 rfl ?_
    refine g_iload (pc := 9) 4 rfl dX12_isWater_9 ?_
    obtain ⟨p2, hp2, hf⟩ := am_bd hf
    refine g_cV (pc := 11) (As := [.int v1, .int v2, .int (am_b v4)]) (st := []) (st1 := [.int p2]) (in_12 hX (by omega)) kk_12 mV_X12_heightOf ln_X12_334 rfl (Nat.le_of_ble_eq_true rfl) (Nat.le_of_ble_eq_true rfl) (k_X12_heightOf hX v1 v2 v4 σ hp2) dX12_isWater_11 rfl rfl ?_
    refine g_istore (pc := 14) [(5, .int p2), (0, .ref (am_ad X 12 0)), (1, .int v1), (2, .int v2), (3, .int (am_b v3)), (4, .int (am_b v4))] dX12_isWater_14 (Nat.le_of_ble_eq_true rfl) rfl ?_
    refine g_aload_n (pc := 16) 1 rfl dX12_isWater_16 rfl ?_
    refine g_iload_n (pc := 17) 2 rfl dX12_isWater_17 rfl ?_
    refine g_iload_n (pc := 18) 3 rfl dX12_isWater_18 rfl ?_
    refine g_iconst (pc := 19) (v := 1) dX12_isWater_19 (by decide) ?_
    refine g_isub (pc := 20) dX12_isWater_20 ?_
    refine g_iload (pc := 21) 5 rfl dX12_isWater_21 ?_
    obtain ⟨p3, hp3, hf⟩ := am_bd hf
    refine g_cV (pc := 23) (As := [.int v1, .int (v2 - 1), .int (am_b v4)]) (st := []) (st1 := [.int p3]) (in_12 hX (by omega)) kk_12 mV_X12_heightOf ln_X12_334 rfl (Nat.le_of_ble_eq_true rfl) (Nat.le_of_ble_eq_true rfl) (k_X12_heightOf hX v1 (v2 - 1) v4 σ hp3) dX12_isWater_23 rfl rfl ?_
    refine g_istore (pc := 26) [(6, .int p3), (5, .int p2), (0, .ref (am_ad X 12 0)), (1, .int v1), (2, .int v2), (3, .int (am_b v3)), (4, .int (am_b v4))] dX12_isWater_26 (Nat.le_of_ble_eq_true rfl) rfl ?_
    refine g_iload_n (pc := 28) 5 rfl dX12_isWater_28 rfl ?_
    refine bt_eq (pc := 29) 42 dX12_isWater_29 rfl (fun c4 => ?_) (fun c4 => ?_)
    · replace hf := am_ifT c4 hf
      refine g_iload (pc := 32) 1 rfl dX12_isWater_32 ?_
      refine g_iload (pc := 34) 0 rfl dX12_isWater_34 ?_
      refine bi_gt (pc := 36) 51 dX12_isWater_36 rfl (fun c5 => ?_) (fun c5 => ?_)
      · replace hf := am_ifT c5 hf
        refine g_iload_n (pc := 51) 4 rfl dX12_isWater_51 rfl ?_
        refine g_iconst (pc := 52) (v := 1) dX12_isWater_52 (by decide) ?_
        refine g_iadd (pc := 53) dX12_isWater_53 ?_
        refine g_istore (pc := 54) [(7, .int (v2 + 1)), (6, .int p3), (5, .int p2), (0, .ref (am_ad X 12 0)), (1, .int v1), (2, .int v2), (3, .int (am_b v3)), (4, .int (am_b v4))] dX12_isWater_54 (Nat.le_of_ble_eq_true rfl) rfl ?_
        obtain ⟨w6, hw6, hf⟩ := am_bd hf
        refine am_sub [3, 4, 6, 7, 2, 0] rfl (l_X12_isWater_56 hX v1 v3 v4 p2  σ (v2 + 1) hw6 ?_ ?_)
        · intro t6_0 e
          subst e
          replace hf := am_elL hf
          refine g_iload_n (pc := 82) 0 rfl dX12_isWater_82 rfl ?_
          refine g_iload (pc := 83) 2 rfl dX12_isWater_83 ?_
          refine g_iload (pc := 85) 1 rfl dX12_isWater_85 ?_
          refine bi_ge (pc := 87) 94 dX12_isWater_87 rfl (fun c7 => ?_) (fun c7 => ?_)
          · replace hf := am_ifT c7 hf
            refine g_iconst (pc := 90) (v := 1) dX12_isWater_90 (by decide) ?_
            refine g_goto (pc := 91) 95 dX12_isWater_91 rfl ?_
            exact am_sub [] rfl (q_X12_isWater_95 hX v3 true σ hf hk)
          replace hf := am_ifF c7 hf
          refine g_iconst (pc := 94) (v := 0) dX12_isWater_94 (by decide) ?_
          exact am_sub [] rfl (q_X12_isWater_95 hX v3 false σ hf hk)
        · intro u6_0 e
          subst e
          replace hf := am_elR hf
          refine g_iconst (pc := 110) (v := 0) dX12_isWater_110 (by decide) ?_
          have ho := Option.some.inj hf
          subst ho
          exact g_zreturn (pc := 111) (st := []) (x := false) rfl dX12_isWater_111 hk
      replace hf := am_ifF c5 hf
      refine g_goto (pc := 39) 49 dX12_isWater_39 rfl ?_
      refine g_iconst (pc := 49) (v := 0) dX12_isWater_49 (by decide) ?_
      have ho := Option.some.inj hf
      subst ho
      exact g_zreturn (pc := 50) (st := []) (x := false) rfl dX12_isWater_50 hk
    replace hf := am_ifF c4 hf
    refine g_iload (pc := 42) 1 rfl dX12_isWater_42 ?_
    refine g_iload (pc := 44) 0 rfl dX12_isWater_44 ?_
    refine bi_lt (pc := 46) 51 dX12_isWater_46 rfl (fun c8 => ?_) (fun c8 => ?_)
    · replace hf := am_ifT c8 hf
      refine g_iload_n (pc := 51) 4 rfl dX12_isWater_51 rfl ?_
      refine g_iconst (pc := 52) (v := 1) dX12_isWater_52 (by decide) ?_
      refine g_iadd (pc := 53) dX12_isWater_53 ?_
      refine g_istore (pc := 54) [(7, .int (v2 + 1)), (6, .int p3), (5, .int p2), (0, .ref (am_ad X 12 0)), (1, .int v1), (2, .int v2), (3, .int (am_b v3)), (4, .int (am_b v4))] dX12_isWater_54 (Nat.le_of_ble_eq_true rfl) rfl ?_
      obtain ⟨w9, hw9, hf⟩ := am_bd hf
      refine am_sub [3, 4, 6, 7, 2, 0] rfl (l_X12_isWater_56 hX v1 v3 v4 p2  σ (v2 + 1) hw9 ?_ ?_)
      · intro t9_0 e
        subst e
        replace hf := am_elL hf
        refine g_iload_n (pc := 82) 0 rfl dX12_isWater_82 rfl ?_
        refine g_iload (pc := 83) 2 rfl dX12_isWater_83 ?_
        refine g_iload (pc := 85) 1 rfl dX12_isWater_85 ?_
        refine bi_ge (pc := 87) 94 dX12_isWater_87 rfl (fun c10 => ?_) (fun c10 => ?_)
        · replace hf := am_ifT c10 hf
          refine g_iconst (pc := 90) (v := 1) dX12_isWater_90 (by decide) ?_
          refine g_goto (pc := 91) 95 dX12_isWater_91 rfl ?_
          exact am_sub [] rfl (q_X12_isWater_95 hX v3 true σ hf hk)
        replace hf := am_ifF c10 hf
        refine g_iconst (pc := 94) (v := 0) dX12_isWater_94 (by decide) ?_
        exact am_sub [] rfl (q_X12_isWater_95 hX v3 false σ hf hk)
      · intro u9_0 e
        subst e
        replace hf := am_elR hf
        refine g_iconst (pc := 110) (v := 0) dX12_isWater_110 (by decide) ?_
        have ho := Option.some.inj hf
        subst ho
        exact g_zreturn (pc := 111) (st := []) (x := false) rfl dX12_isWater_111 hk
    replace hf := am_ifF c8 hf
    refine g_iconst (pc := 49) (v := 0) dX12_isWater_49 (by decide) ?_
    have ho := Option.some.inj hf
    subst ho
    exact g_zreturn (pc := 50) (st := []) (x := false) rfl dX12_isWater_50 hk
  replace hf := am_ifF c1 hf
  refine g_iconst (pc := 4) (v := 0) dX12_isWater_4 (by decide) ?_
  have ho := Option.some.inj hf
  subst ho
  exact g_zreturn (pc := 5) (st := []) (x := false) rfl dX12_isWater_5 hk
theorem k_X12_isWater {X : am_X} (hX : am_ks X = am_ksM) (v1 : Int32) (v2 : Int32) (v3 : Bool) (v4 : Bool) (σ : am_H) {o : Bool} (hf : f_X12_isWater v1 v2 v3 v4 σ = some o) : am_C X gm_X12_isWater [.ref (am_ad X 12 0), .int v1, .int v2, .int (am_b v3), .int (am_b v4)] σ (am_is (some (.int (am_b o))) σ) :=
  am_ofG rfl (Nat.le_of_ble_eq_true rfl) rfl (q_X12_isWater hX v1 v2 v3 v4 σ hf ⟨rfl, rfl⟩)
theorem dX12_waters_0 : decode cX12_waters 0 = .ok (.aload_n 0, 1) := by decide +kernel
theorem dX12_waters_1 : decode cX12_waters 1 = .ok (.iconst 0, 1) := by decide +kernel
theorem dX12_waters_2 : decode cX12_waters 2 = .ok (.putfield 122, 3) := by decide +kernel
theorem dX12_waters_5 : decode cX12_waters 5 = .ok (.aload_n 0, 1) := by decide +kernel
theorem dX12_waters_6 : decode cX12_waters 6 = .ok (.iconst 0, 1) := by decide +kernel
theorem dX12_waters_7 : decode cX12_waters 7 = .ok (.putfield 125, 3) := by decide +kernel
theorem dX12_waters_10 : decode cX12_waters 10 = .ok (.iload_n 1, 1) := by decide +kernel
theorem dX12_waters_11 : decode cX12_waters 11 = .ok (.invokestatic 280, 3) := by decide +kernel
theorem dX12_waters_14 : decode cX12_waters 14 = .ok (.ifCond .ne 9, 3) := by decide +kernel
theorem dX12_waters_17 : decode cX12_waters 17 = .ok (.aload_n 0, 1) := by decide +kernel
theorem dX12_waters_18 : decode cX12_waters 18 = .ok (.iconst 2, 1) := by decide +kernel
theorem dX12_waters_19 : decode cX12_waters 19 = .ok (.invokevirtual 283, 3) := by decide +kernel
theorem dX12_waters_22 : decode cX12_waters 22 = .ok (.ireturn, 1) := by decide +kernel
theorem dX12_waters_23 : decode cX12_waters 23 = .ok (.iload_n 2, 1) := by decide +kernel
theorem dX12_waters_24 : decode cX12_waters 24 = .ok (.invokestatic 528, 3) := by decide +kernel
theorem dX12_waters_27 : decode cX12_waters 27 = .ok (.ifCond .ne 9, 3) := by decide +kernel
theorem dX12_waters_30 : decode cX12_waters 30 = .ok (.aload_n 0, 1) := by decide +kernel
theorem dX12_waters_31 : decode cX12_waters 31 = .ok (.iconst 5, 1) := by decide +kernel
theorem dX12_waters_32 : decode cX12_waters 32 = .ok (.invokevirtual 283, 3) := by decide +kernel
theorem dX12_waters_35 : decode cX12_waters 35 = .ok (.ireturn, 1) := by decide +kernel
theorem dX12_waters_36 : decode cX12_waters 36 = .ok (.iconst 0, 1) := by decide +kernel
theorem dX12_waters_37 : decode cX12_waters 37 = .ok (.istore 5, 2) := by decide +kernel
theorem dX12_waters_39 : decode cX12_waters 39 = .ok (.bipush 24, 2) := by decide +kernel
theorem dX12_waters_41 : decode cX12_waters 41 = .ok (.iload_n 2, 1) := by decide +kernel
theorem dX12_waters_42 : decode cX12_waters 42 = .ok (.imul, 1) := by decide +kernel
theorem dX12_waters_43 : decode cX12_waters 43 = .ok (.istore 6, 2) := by decide +kernel
theorem dX12_waters_45 : decode cX12_waters 45 = .ok (.iload 6, 2) := by decide +kernel
theorem dX12_waters_47 : decode cX12_waters 47 = .ok (.iload_n 2, 1) := by decide +kernel
theorem dX12_waters_48 : decode cX12_waters 48 = .ok (.invokestatic 531, 3) := by decide +kernel
theorem dX12_waters_51 : decode cX12_waters 51 = .ok (.if_icmp .gt 32, 3) := by decide +kernel
theorem dX12_waters_54 : decode cX12_waters 54 = .ok (.iload 5, 2) := by decide +kernel
theorem dX12_waters_56 : decode cX12_waters 56 = .ok (.aload_n 0, 1) := by decide +kernel
theorem dX12_waters_57 : decode cX12_waters 57 = .ok (.iload_n 1, 1) := by decide +kernel
theorem dX12_waters_58 : decode cX12_waters 58 = .ok (.iload 6, 2) := by decide +kernel
theorem dX12_waters_60 : decode cX12_waters 60 = .ok (.iload_n 3, 1) := by decide +kernel
theorem dX12_waters_61 : decode cX12_waters 61 = .ok (.iload 4, 2) := by decide +kernel
theorem dX12_waters_63 : decode cX12_waters 63 = .ok (.invokevirtual 534, 3) := by decide +kernel
theorem dX12_waters_66 : decode cX12_waters 66 = .ok (.ifCond .eq 7, 3) := by decide +kernel
theorem dX12_waters_69 : decode cX12_waters 69 = .ok (.iconst 1, 1) := by decide +kernel
theorem dX12_waters_70 : decode cX12_waters 70 = .ok (.goto 4, 3) := by decide +kernel
theorem dX12_waters_73 : decode cX12_waters 73 = .ok (.iconst 0, 1) := by decide +kernel
theorem dX12_waters_74 : decode cX12_waters 74 = .ok (.iadd, 1) := by decide +kernel
theorem dX12_waters_75 : decode cX12_waters 75 = .ok (.istore 5, 2) := by decide +kernel
theorem dX12_waters_77 : decode cX12_waters 77 = .ok (.iinc 6 1, 3) := by decide +kernel
theorem dX12_waters_80 : decode cX12_waters 80 = .ok (.goto (-35), 3) := by decide +kernel
theorem dX12_waters_83 : decode cX12_waters 83 = .ok (.iload 5, 2) := by decide +kernel
theorem dX12_waters_85 : decode cX12_waters 85 = .ok (.ireturn, 1) := by decide +kernel
noncomputable def f_X12_waters_45 (v1 : Int32) (v2 : Int32) (v3 : Bool) (v4 : Bool) (v5 : Int32) (v6 : Int32) (σ : am_H) : Option ((Int32 × Int32) ⊕ (Int32)) :=
  (f_X12_lastHour v2 σ).bind fun p1 =>
  if p1 < v6 then
   (some (.inr v5))
  else
  (f_X12_isWater v1 v6 v3 v4 σ).bind fun p3 =>
  if p3 = true then
   (some (.inl ((v5 + 1), (v6 + 1))))
  else
  some (.inl ((v5 + 0), (v6 + 1)))
set_option maxRecDepth 100000 in
set_option maxHeartbeats 4000000 in
theorem q_X12_waters_45 {X : am_X} (hX : am_ks X = am_ksM) {Q : Option Value → am_H → Prop} (v1 : Int32) (v2 : Int32) (v3 : Bool) (v4 : Bool) (v5 : Int32) (v6 : Int32) (σ : am_H) {o : (Int32 × Int32) ⊕ (Int32)} (hf : f_X12_waters_45 v1 v2 v3 v4 v5 v6 σ = some o) (hk0 : ∀ s, o = .inl s → am_G X gm_X12_waters Q 45 [(0, .ref (am_ad X 12 0)), (1, .int v1), (2, .int v2), (3, .int (am_b v3)), (4, .int (am_b v4)), (5, .int s.1), (6, .int s.2)] [] σ) (hk1 : ∀ t, o = .inr t → am_G X gm_X12_waters Q 83 [(5, .int t)] [] σ) : am_G X gm_X12_waters Q 45 [(0, .ref (am_ad X 12 0)), (1, .int v1), (2, .int v2), (3, .int (am_b v3)), (4, .int (am_b v4)), (5, .int v5), (6, .int v6)] [] σ := by
  unfold f_X12_waters_45 at hf
  refine g_iload (pc := 45) 6 rfl dX12_waters_45 ?_
  refine g_iload_n (pc := 47) 2 rfl dX12_waters_47 rfl ?_
  obtain ⟨p1, hp1, hf⟩ := am_bd hf
  refine g_cS (pc := 48) (As := [.int v2]) (st := [.int v6]) (st1 := [.int p1, .int v6]) mS_X12_lastHour ln_X12_531 rfl (Nat.le_of_ble_eq_true rfl) (Nat.le_of_ble_eq_true rfl) (k_X12_lastHour hX v2 σ hp1) dX12_waters_48 rfl rfl ?_
  refine bi_gt (pc := 51) 83 dX12_waters_51 rfl (fun c2 => ?_) (fun c2 => ?_)
  · replace hf := am_ifT c2 hf
    have hz := hk1 _ (Option.some.inj hf).symm
    exact am_sub [5] rfl hz
  replace hf := am_ifF c2 hf
  refine g_iload (pc := 54) 5 rfl dX12_waters_54 ?_
  refine g_aload_n (pc := 56) 0 rfl dX12_waters_56 rfl ?_
  refine g_iload_n (pc := 57) 1 rfl dX12_waters_57 rfl ?_
  refine g_iload (pc := 58) 6 rfl dX12_waters_58 ?_
  refine g_iload_n (pc := 60) 3 rfl dX12_waters_60 rfl ?_
  refine g_iload (pc := 61) 4 rfl dX12_waters_61 ?_
  obtain ⟨p3, hp3, hf⟩ := am_bd hf
  refine g_cV (pc := 63) (As := [.int v1, .int v6, .int (am_b v3), .int (am_b v4)]) (st := [.int v5]) (st1 := [.int (am_b p3), .int v5]) (in_12 hX (by omega)) kk_12 mV_X12_isWater ln_X12_534 rfl (Nat.le_of_ble_eq_true rfl) (Nat.le_of_ble_eq_true rfl) (k_X12_isWater hX v1 v6 v3 v4 σ hp3) dX12_waters_63 rfl rfl ?_
  refine bt_eq (pc := 66) 73 dX12_waters_66 rfl (fun c4 => ?_) (fun c4 => ?_)
  · replace hf := am_ifT c4 hf
    refine g_iconst (pc := 69) (v := 1) dX12_waters_69 (by decide) ?_
    refine g_goto (pc := 70) 74 dX12_waters_70 rfl ?_
    refine g_iadd (pc := 74) dX12_waters_74 ?_
    refine g_istore (pc := 75) [(5, .int (v5 + 1)), (0, .ref (am_ad X 12 0)), (1, .int v1), (2, .int v2), (3, .int (am_b v3)), (4, .int (am_b v4)), (6, .int v6)] dX12_waters_75 (Nat.le_of_ble_eq_true rfl) rfl ?_
    refine g_iinc (pc := 77) (v := (v6 + 1)) 6 [(6, .int (v6 + 1)), (5, .int (v5 + 1)), (0, .ref (am_ad X 12 0)), (1, .int v1), (2, .int v2), (3, .int (am_b v3)), (4, .int (am_b v4))] dX12_waters_77 rfl rfl (Nat.le_of_ble_eq_true rfl) rfl ?_
    refine g_goto (pc := 80) 45 dX12_waters_80 rfl ?_
    have hz := hk0 _ (Option.some.inj hf).symm
    exact am_sub [2, 3, 4, 5, 6, 1, 0] rfl hz
  replace hf := am_ifF c4 hf
  refine g_iconst (pc := 73) (v := 0) dX12_waters_73 (by decide) ?_
  refine g_iadd (pc := 74) dX12_waters_74 ?_
  refine g_istore (pc := 75) [(5, .int (v5 + 0)), (0, .ref (am_ad X 12 0)), (1, .int v1), (2, .int v2), (3, .int (am_b v3)), (4, .int (am_b v4)), (6, .int v6)] dX12_waters_75 (Nat.le_of_ble_eq_true rfl) rfl ?_
  refine g_iinc (pc := 77) (v := (v6 + 1)) 6 [(6, .int (v6 + 1)), (5, .int (v5 + 0)), (0, .ref (am_ad X 12 0)), (1, .int v1), (2, .int v2), (3, .int (am_b v3)), (4, .int (am_b v4))] dX12_waters_77 rfl rfl (Nat.le_of_ble_eq_true rfl) rfl ?_
  refine g_goto (pc := 80) 45 dX12_waters_80 rfl ?_
  have hz := hk0 _ (Option.some.inj hf).symm
  exact am_sub [2, 3, 4, 5, 6, 1, 0] rfl hz
set_option maxRecDepth 100000 in
set_option maxHeartbeats 4000000 in
theorem l_X12_waters_45 {X : am_X} (hX : am_ks X = am_ksM) {Q : Option Value → am_H → Prop} (v1 : Int32) (v2 : Int32) (v3 : Bool) (v4 : Bool) (σ : am_H) (s : Int32 × Int32) {o : Int32} (hf : am_loop (fun s => f_X12_waters_45 v1 v2 v3 v4 s.1 s.2 σ) s = some o) (hk1 : ∀ t, o = t → am_G X gm_X12_waters Q 83 [(5, .int t)] [] σ) : am_G X gm_X12_waters Q 45 [(0, .ref (am_ad X 12 0)), (1, .int v1), (2, .int v2), (3, .int (am_b v3)), (4, .int (am_b v4)), (5, .int s.1), (6, .int s.2)] [] σ := by
  refine am_loop_ind (P := fun s => am_G X gm_X12_waters Q 45 [(0, .ref (am_ad X 12 0)), (1, .int v1), (2, .int v2), (3, .int (am_b v3)), (4, .int (am_b v4)), (5, .int s.1), (6, .int s.2)] [] σ) (K := fun r => r = o) ?_ hf rfl
  intro s o1 hb hi hr
  exact q_X12_waters_45 hX v1 v2 v3 v4 s.1 s.2  σ hb hi (fun t e => hk1 t (hr _ e).symm)
noncomputable def f_X12_waters (v1 : Int32) (v2 : Int32) (v3 : Bool) (v4 : Bool) (σ : am_H) : Option (Int32 × am_H) :=
  (some (am_wI σ 12 0 1 0)).bind fun s1 =>
  (some (am_wI s1 12 0 0 0)).bind fun s2 =>
  (f_X12_isMachine v1 s2).bind fun p3 =>
  if p3 = true then
   ((f_X12_isDay v2 s2).bind fun p5 =>
   if p5 = true then
    ((am_loop (fun s => f_X12_waters_45 v1 v2 v3 v4 s.1 s.2 s2) (0, (24 * v2))).bind fun w7 =>
    some (w7, s2))
   else
   (f_X12_refuse 5 s2).bind fun p8 =>
   some (p8.1, p8.2))
  else
  (f_X12_refuse 2 s2).bind fun p9 =>
  some (p9.1, p9.2)
set_option maxRecDepth 100000 in
set_option maxHeartbeats 4000000 in
theorem q_X12_waters {X : am_X} (hX : am_ks X = am_ksM) {Q : Option Value → am_H → Prop} (v1 : Int32) (v2 : Int32) (v3 : Bool) (v4 : Bool) (σ : am_H) {o : Int32 × am_H} (hf : f_X12_waters v1 v2 v3 v4 σ = some o) (hk : Q (some (.int o.1)) o.2) : am_G X gm_X12_waters Q 0 [(0, .ref (am_ad X 12 0)), (1, .int v1), (2, .int v2), (3, .int (am_b v3)), (4, .int (am_b v4))] [] σ := by
  unfold f_X12_waters at hf
  refine g_aload_n (pc := 0) 0 rfl dX12_waters_0 rfl ?_
  refine g_iconst (pc := 1) (v := 0) dX12_waters_1 (by decide) ?_
  obtain ⟨s1, hs1, hf⟩ := am_bd hf
  refine g_setI (pc := 2) (in_12 hX (by omega)) fr_X12_122 dX12_waters_2 (Option.some.inj hs1) ?_
  refine g_aload_n (pc := 5) 0 rfl dX12_waters_5 rfl ?_
  refine g_iconst (pc := 6) (v := 0) dX12_waters_6 (by decide) ?_
  obtain ⟨s2, hs2, hf⟩ := am_bd hf
  refine g_setI (pc := 7) (in_12 hX (by omega)) fr_X12_125 dX12_waters_7 (Option.some.inj hs2) ?_
  refine g_iload_n (pc := 10) 1 rfl dX12_waters_10 rfl ?_
  obtain ⟨p3, hp3, hf⟩ := am_bd hf
  refine g_cS (pc := 11) (As := [.int v1]) (st := []) (st1 := [.int (am_b p3)]) mS_X12_isMachine ln_X12_280 rfl (Nat.le_of_ble_eq_true rfl) (Nat.le_of_ble_eq_true rfl) (k_X12_isMachine hX v1 s2 hp3) dX12_waters_11 rfl rfl ?_
  refine bt_ne (pc := 14) 23 dX12_waters_14 rfl (fun c4 => ?_) (fun c4 => ?_)
  · replace hf := am_ifT c4 hf
    refine g_iload_n (pc := 23) 2 rfl dX12_waters_23 rfl ?_
    obtain ⟨p5, hp5, hf⟩ := am_bd hf
    refine g_cS (pc := 24) (As := [.int v2]) (st := []) (st1 := [.int (am_b p5)]) mS_X12_isDay ln_X12_528 rfl (Nat.le_of_ble_eq_true rfl) (Nat.le_of_ble_eq_true rfl) (k_X12_isDay hX v2 s2 hp5) dX12_waters_24 rfl rfl ?_
    refine bt_ne (pc := 27) 36 dX12_waters_27 rfl (fun c6 => ?_) (fun c6 => ?_)
    · replace hf := am_ifT c6 hf
      refine g_iconst (pc := 36) (v := 0) dX12_waters_36 (by decide) ?_
      refine g_istore (pc := 37) [(5, .int 0), (0, .ref (am_ad X 12 0)), (1, .int v1), (2, .int v2), (3, .int (am_b v3)), (4, .int (am_b v4))] dX12_waters_37 (Nat.le_of_ble_eq_true rfl) rfl ?_
      refine g_bipush (pc := 39) (v := 24) dX12_waters_39 (by decide) ?_
      refine g_iload_n (pc := 41) 3 rfl dX12_waters_41 rfl ?_
      refine g_imul (pc := 42) dX12_waters_42 ?_
      refine g_istore (pc := 43) [(6, .int (24 * v2)), (5, .int 0), (0, .ref (am_ad X 12 0)), (1, .int v1), (2, .int v2), (3, .int (am_b v3)), (4, .int (am_b v4))] dX12_waters_43 (Nat.le_of_ble_eq_true rfl) rfl ?_
      obtain ⟨w7, hw7, hf⟩ := am_bd hf
      refine am_sub [2, 3, 4, 5, 6, 1, 0] rfl (l_X12_waters_45 hX v1 v2 v3 v4  s2 (0, (24 * v2)) hw7 ?_)
      intro t e
      subst e
      refine g_iload (pc := 83) 0 rfl dX12_waters_83 ?_
      have ho := Option.some.inj hf
      subst ho
      exact g_ireturn (pc := 85) (st := []) rfl dX12_waters_85 hk
    replace hf := am_ifF c6 hf
    refine g_aload_n (pc := 30) 0 rfl dX12_waters_30 rfl ?_
    refine g_iconst (pc := 31) (v := 5) dX12_waters_31 (by decide) ?_
    obtain ⟨p8, hp8, hf⟩ := am_bd hf
    refine g_cV (pc := 32) (As := [.int 5]) (st := []) (st1 := [.int p8.1]) (in_12 hX (by omega)) kk_12 mV_X12_refuse ln_X12_283 rfl (Nat.le_of_ble_eq_true rfl) (Nat.le_of_ble_eq_true rfl) (k_X12_refuse hX 5 s2 hp8) dX12_waters_32 rfl rfl ?_
    have ho := Option.some.inj hf
    subst ho
    exact g_ireturn (pc := 35) (st := []) rfl dX12_waters_35 hk
  replace hf := am_ifF c4 hf
  refine g_aload_n (pc := 17) 0 rfl dX12_waters_17 rfl ?_
  refine g_iconst (pc := 18) (v := 2) dX12_waters_18 (by decide) ?_
  obtain ⟨p9, hp9, hf⟩ := am_bd hf
  refine g_cV (pc := 19) (As := [.int 2]) (st := []) (st1 := [.int p9.1]) (in_12 hX (by omega)) kk_12 mV_X12_refuse ln_X12_283 rfl (Nat.le_of_ble_eq_true rfl) (Nat.le_of_ble_eq_true rfl) (k_X12_refuse hX 2 s2 hp9) dX12_waters_19 rfl rfl ?_
  have ho := Option.some.inj hf
  subst ho
  exact g_ireturn (pc := 22) (st := []) rfl dX12_waters_22 hk
theorem k_X12_waters {X : am_X} (hX : am_ks X = am_ksM) (v1 : Int32) (v2 : Int32) (v3 : Bool) (v4 : Bool) (σ : am_H) {o : Int32 × am_H} (hf : f_X12_waters v1 v2 v3 v4 σ = some o) : am_C X gm_X12_waters [.ref (am_ad X 12 0), .int v1, .int v2, .int (am_b v3), .int (am_b v4)] σ (am_is (some (.int o.1)) o.2) :=
  am_ofG rfl (Nat.le_of_ble_eq_true rfl) rfl (q_X12_waters hX v1 v2 v3 v4 σ hf ⟨rfl, rfl⟩)
theorem dX12_waterOf_0 : decode cX12_waterOf 0 = .ok (.iload 5, 2) := by decide +kernel
theorem dX12_waterOf_2 : decode cX12_waterOf 2 = .ok (.istore 6, 2) := by decide +kernel
theorem dX12_waterOf_4 : decode cX12_waterOf 4 = .ok (.bipush 24, 2) := by decide +kernel
theorem dX12_waterOf_6 : decode cX12_waterOf 6 = .ok (.iload_n 2, 1) := by decide +kernel
theorem dX12_waterOf_7 : decode cX12_waterOf 7 = .ok (.imul, 1) := by decide +kernel
theorem dX12_waterOf_8 : decode cX12_waterOf 8 = .ok (.istore 7, 2) := by decide +kernel
theorem dX12_waterOf_10 : decode cX12_waterOf 10 = .ok (.iload 7, 2) := by decide +kernel
theorem dX12_waterOf_12 : decode cX12_waterOf 12 = .ok (.iload_n 2, 1) := by decide +kernel
theorem dX12_waterOf_13 : decode cX12_waterOf 13 = .ok (.invokestatic 531, 3) := by decide +kernel
theorem dX12_waterOf_16 : decode cX12_waterOf 16 = .ok (.if_icmp .gt 41, 3) := by decide +kernel
theorem dX12_waterOf_19 : decode cX12_waterOf 19 = .ok (.iload 5, 2) := by decide +kernel
theorem dX12_waterOf_21 : decode cX12_waterOf 21 = .ok (.ifCond .lt 36, 3) := by decide +kernel
theorem dX12_waterOf_24 : decode cX12_waterOf 24 = .ok (.aload_n 0, 1) := by decide +kernel
theorem dX12_waterOf_25 : decode cX12_waterOf 25 = .ok (.iload_n 1, 1) := by decide +kernel
theorem dX12_waterOf_26 : decode cX12_waterOf 26 = .ok (.iload 7, 2) := by decide +kernel
theorem dX12_waterOf_28 : decode cX12_waterOf 28 = .ok (.iload_n 3, 1) := by decide +kernel
theorem dX12_waterOf_29 : decode cX12_waterOf 29 = .ok (.iload 4, 2) := by decide +kernel
theorem dX12_waterOf_31 : decode cX12_waterOf 31 = .ok (.invokevirtual 534, 3) := by decide +kernel
theorem dX12_waterOf_34 : decode cX12_waterOf 34 = .ok (.ifCond .ne 6, 3) := by decide +kernel
theorem dX12_waterOf_37 : decode cX12_waterOf 37 = .ok (.goto 14, 3) := by decide +kernel
theorem dX12_waterOf_40 : decode cX12_waterOf 40 = .ok (.iload 6, 2) := by decide +kernel
theorem dX12_waterOf_42 : decode cX12_waterOf 42 = .ok (.ifCond .ne 6, 3) := by decide +kernel
theorem dX12_waterOf_45 : decode cX12_waterOf 45 = .ok (.iload 7, 2) := by decide +kernel
theorem dX12_waterOf_47 : decode cX12_waterOf 47 = .ok (.ireturn, 1) := by decide +kernel
theorem dX12_waterOf_48 : decode cX12_waterOf 48 = .ok (.iinc 6 (-1), 3) := by decide +kernel
theorem dX12_waterOf_51 : decode cX12_waterOf 51 = .ok (.iinc 7 1, 3) := by decide +kernel
theorem dX12_waterOf_54 : decode cX12_waterOf 54 = .ok (.goto (-44), 3) := by decide +kernel
theorem dX12_waterOf_57 : decode cX12_waterOf 57 = .ok (.iconst (-1), 1) := by decide +kernel
theorem dX12_waterOf_58 : decode cX12_waterOf 58 = .ok (.ireturn, 1) := by decide +kernel
noncomputable def f_X12_waterOf_10 (v1 : Int32) (v2 : Int32) (v3 : Bool) (v4 : Bool) (v5 : Int32) (v6 : Int32) (v7 : Int32) (σ : am_H) : Option ((Int32 × Int32) ⊕ ((Int32) ⊕ (Unit))) :=
  (f_X12_lastHour v2 σ).bind fun p1 =>
  if p1 < v7 then
   (some (.inr (.inr ())))
  else
  if v5 < 0 then
   (some (.inr (.inr ())))
  else
  (f_X12_isWater v1 v7 v3 v4 σ).bind fun p4 =>
  if p4 = true then
   (if v6 = 0 then
    (some (.inr (.inl v7)))
   else
   some (.inl ((v6 + (-1)), (v7 + 1))))
  else
  some (.inl (v6, (v7 + 1)))
set_option maxRecDepth 100000 in
set_option maxHeartbeats 4000000 in
theorem q_X12_waterOf_10 {X : am_X} (hX : am_ks X = am_ksM) {Q : Option Value → am_H → Prop} (v1 : Int32) (v2 : Int32) (v3 : Bool) (v4 : Bool) (v5 : Int32) (v6 : Int32) (v7 : Int32) (σ : am_H) {o : (Int32 × Int32) ⊕ ((Int32) ⊕ (Unit))} (hf : f_X12_waterOf_10 v1 v2 v3 v4 v5 v6 v7 σ = some o) (hk0 : ∀ s, o = .inl s → am_G X gm_X12_waterOf Q 10 [(0, .ref (am_ad X 12 0)), (1, .int v1), (2, .int v2), (3, .int (am_b v3)), (4, .int (am_b v4)), (5, .int v5), (6, .int s.1), (7, .int s.2)] [] σ) (hk1 : ∀ t, o = .inr (.inl t) → am_G X gm_X12_waterOf Q 45 [(7, .int t)] [] σ) (hk2 : ∀ t, o = .inr (.inr t) → am_G X gm_X12_waterOf Q 57 [] [] σ) : am_G X gm_X12_waterOf Q 10 [(0, .ref (am_ad X 12 0)), (1, .int v1), (2, .int v2), (3, .int (am_b v3)), (4, .int (am_b v4)), (5, .int v5), (6, .int v6), (7, .int v7)] [] σ := by
  unfold f_X12_waterOf_10 at hf
  refine g_iload (pc := 10) 7 rfl dX12_waterOf_10 ?_
  refine g_iload_n (pc := 12) 2 rfl dX12_waterOf_12 rfl ?_
  obtain ⟨p1, hp1, hf⟩ := am_bd hf
  refine g_cS (pc := 13) (As := [.int v2]) (st := [.int v7]) (st1 := [.int p1, .int v7]) mS_X12_lastHour ln_X12_531 rfl (Nat.le_of_ble_eq_true rfl) (Nat.le_of_ble_eq_true rfl) (k_X12_lastHour hX v2 σ hp1) dX12_waterOf_13 rfl rfl ?_
  refine bi_gt (pc := 16) 57 dX12_waterOf_16 rfl (fun c2 => ?_) (fun c2 => ?_)
  · replace hf := am_ifT c2 hf
    have hz := hk2 _ (Option.some.inj hf).symm
    exact am_sub [] rfl hz
  replace hf := am_ifF c2 hf
  refine g_iload (pc := 19) 5 rfl dX12_waterOf_19 ?_
  refine bz_lt (pc := 21) 57 dX12_waterOf_21 rfl (fun c3 => ?_) (fun c3 => ?_)
  · replace hf := am_ifT c3 hf
    have hz := hk2 _ (Option.some.inj hf).symm
    exact am_sub [] rfl hz
  replace hf := am_ifF c3 hf
  refine g_aload_n (pc := 24) 0 rfl dX12_waterOf_24 rfl ?_
  refine g_iload_n (pc := 25) 1 rfl dX12_waterOf_25 rfl ?_
  refine g_iload (pc := 26) 7 rfl dX12_waterOf_26 ?_
  refine g_iload_n (pc := 28) 3 rfl dX12_waterOf_28 rfl ?_
  refine g_iload (pc := 29) 4 rfl dX12_waterOf_29 ?_
  obtain ⟨p4, hp4, hf⟩ := am_bd hf
  refine g_cV (pc := 31) (As := [.int v1, .int v7, .int (am_b v3), .int (am_b v4)]) (st := []) (st1 := [.int (am_b p4)]) (in_12 hX (by omega)) kk_12 mV_X12_isWater ln_X12_534 rfl (Nat.le_of_ble_eq_true rfl) (Nat.le_of_ble_eq_true rfl) (k_X12_isWater hX v1 v7 v3 v4 σ hp4) dX12_waterOf_31 rfl rfl ?_
  refine bt_ne (pc := 34) 40 dX12_waterOf_34 rfl (fun c5 => ?_) (fun c5 => ?_)
  · replace hf := am_ifT c5 hf
    refine g_iload (pc := 40) 6 rfl dX12_waterOf_40 ?_
    refine bz_ne (pc := 42) 48 dX12_waterOf_42 rfl (fun c6 => ?_) (fun c6 => ?_)
    · replace hf := am_ifT c6 hf
      have hz := hk1 _ (Option.some.inj hf).symm
      exact am_sub [7] rfl hz
    replace hf := am_ifF c6 hf
    refine g_iinc (pc := 48) (v := (v6 + (-1))) 6 [(6, .int (v6 + (-1))), (0, .ref (am_ad X 12 0)), (1, .int v1), (2, .int v2), (3, .int (am_b v3)), (4, .int (am_b v4)), (5, .int v5), (7, .int v7)] dX12_waterOf_48 rfl rfl (Nat.le_of_ble_eq_true rfl) rfl ?_
    refine g_iinc (pc := 51) (v := (v7 + 1)) 7 [(7, .int (v7 + 1)), (6, .int (v6 + (-1))), (0, .ref (am_ad X 12 0)), (1, .int v1), (2, .int v2), (3, .int (am_b v3)), (4, .int (am_b v4)), (5, .int v5)] dX12_waterOf_51 rfl rfl (Nat.le_of_ble_eq_true rfl) rfl ?_
    refine g_goto (pc := 54) 10 dX12_waterOf_54 rfl ?_
    have hz := hk0 _ (Option.some.inj hf).symm
    exact am_sub [2, 3, 4, 5, 6, 7, 1, 0] rfl hz
  replace hf := am_ifF c5 hf
  refine g_goto (pc := 37) 51 dX12_waterOf_37 rfl ?_
  refine g_iinc (pc := 51) (v := (v7 + 1)) 7 [(7, .int (v7 + 1)), (0, .ref (am_ad X 12 0)), (1, .int v1), (2, .int v2), (3, .int (am_b v3)), (4, .int (am_b v4)), (5, .int v5), (6, .int v6)] dX12_waterOf_51 rfl rfl (Nat.le_of_ble_eq_true rfl) rfl ?_
  refine g_goto (pc := 54) 10 dX12_waterOf_54 rfl ?_
  have hz := hk0 _ (Option.some.inj hf).symm
  exact am_sub [1, 2, 3, 4, 5, 6, 7, 0] rfl hz
set_option maxRecDepth 100000 in
set_option maxHeartbeats 4000000 in
theorem l_X12_waterOf_10 {X : am_X} (hX : am_ks X = am_ksM) {Q : Option Value → am_H → Prop} (v1 : Int32) (v2 : Int32) (v3 : Bool) (v4 : Bool) (v5 : Int32) (σ : am_H) (s : Int32 × Int32) {o : (Int32) ⊕ (Unit)} (hf : am_loop (fun s => f_X12_waterOf_10 v1 v2 v3 v4 v5 s.1 s.2 σ) s = some o) (hk1 : ∀ t, o = (.inl t) → am_G X gm_X12_waterOf Q 45 [(7, .int t)] [] σ) (hk2 : ∀ t, o = (.inr t) → am_G X gm_X12_waterOf Q 57 [] [] σ) : am_G X gm_X12_waterOf Q 10 [(0, .ref (am_ad X 12 0)), (1, .int v1), (2, .int v2), (3, .int (am_b v3)), (4, .int (am_b v4)), (5, .int v5), (6, .int s.1), (7, .int s.2)] [] σ := by
  refine am_loop_ind (P := fun s => am_G X gm_X12_waterOf Q 10 [(0, .ref (am_ad X 12 0)), (1, .int v1), (2, .int v2), (3, .int (am_b v3)), (4, .int (am_b v4)), (5, .int v5), (6, .int s.1), (7, .int s.2)] [] σ) (K := fun r => r = o) ?_ hf rfl
  intro s o1 hb hi hr
  exact q_X12_waterOf_10 hX v1 v2 v3 v4 v5 s.1 s.2  σ hb hi (fun t e => hk1 t (hr _ e).symm) (fun t e => hk2 t (hr _ e).symm)
noncomputable def f_X12_waterOf (v1 : Int32) (v2 : Int32) (v3 : Bool) (v4 : Bool) (v5 : Int32) (σ : am_H) : Option (Int32) :=
  (am_loop (fun s => f_X12_waterOf_10 v1 v2 v3 v4 v5 s.1 s.2 σ) (v5, (24 * v2))).bind fun w1 =>
  Sum.elim (fun t1_0 =>
   some t1_0) (fun u1_0 =>
   some (-1)) w1
set_option maxRecDepth 100000 in
set_option maxHeartbeats 4000000 in
theorem q_X12_waterOf {X : am_X} (hX : am_ks X = am_ksM) {Q : Option Value → am_H → Prop} (v1 : Int32) (v2 : Int32) (v3 : Bool) (v4 : Bool) (v5 : Int32) (σ : am_H) {o : Int32} (hf : f_X12_waterOf v1 v2 v3 v4 v5 σ = some o) (hk : Q (some (.int o)) σ) : am_G X gm_X12_waterOf Q 0 [(0, .ref (am_ad X 12 0)), (1, .int v1), (2, .int v2), (3, .int (am_b v3)), (4, .int (am_b v4)), (5, .int v5)] [] σ := by
  unfold f_X12_waterOf at hf
  refine g_iload (pc := 0) 5 rfl dX12_waterOf_0 ?_
  refine g_istore (pc := 2) [(6, .int v5), (0, .ref (am_ad X 12 0)), (1, .int v1), (2, .int v2), (3, .int (am_b v3)), (4, .int (am_b v4)), (5, .int v5)] dX12_waterOf_2 (Nat.le_of_ble_eq_true rfl) rfl ?_
  refine g_bipush (pc := 4) (v := 24) dX12_waterOf_4 (by decide) ?_
  refine g_iload_n (pc := 6) 3 rfl dX12_waterOf_6 rfl ?_
  refine g_imul (pc := 7) dX12_waterOf_7 ?_
  refine g_istore (pc := 8) [(7, .int (24 * v2)), (6, .int v5), (0, .ref (am_ad X 12 0)), (1, .int v1), (2, .int v2), (3, .int (am_b v3)), (4, .int (am_b v4)), (5, .int v5)] dX12_waterOf_8 (Nat.le_of_ble_eq_true rfl) rfl ?_
  obtain ⟨w1, hw1, hf⟩ := am_bd hf
  refine am_sub [2, 3, 4, 5, 6, 7, 1, 0] rfl (l_X12_waterOf_10 hX v1 v2 v3 v4 v5  σ (v5, (24 * v2)) hw1 ?_ ?_)
  · intro t1_0 e
    subst e
    replace hf := am_elL hf
    refine g_iload (pc := 45) 0 rfl dX12_waterOf_45 ?_
    have ho := Option.some.inj hf
    subst ho
    exact g_ireturn (pc := 47) (st := []) rfl dX12_waterOf_47 hk
  · intro u1_0 e
    subst e
    replace hf := am_elR hf
    refine g_iconst (pc := 57) (v := (-1)) dX12_waterOf_57 (by decide) ?_
    have ho := Option.some.inj hf
    subst ho
    exact g_ireturn (pc := 58) (st := []) rfl dX12_waterOf_58 hk
theorem k_X12_waterOf {X : am_X} (hX : am_ks X = am_ksM) (v1 : Int32) (v2 : Int32) (v3 : Bool) (v4 : Bool) (v5 : Int32) (σ : am_H) {o : Int32} (hf : f_X12_waterOf v1 v2 v3 v4 v5 σ = some o) : am_C X gm_X12_waterOf [.ref (am_ad X 12 0), .int v1, .int v2, .int (am_b v3), .int (am_b v4), .int v5] σ (am_is (some (.int o)) σ) :=
  am_ofG rfl (Nat.le_of_ble_eq_true rfl) rfl (q_X12_waterOf hX v1 v2 v3 v4 v5 σ hf ⟨rfl, rfl⟩)
theorem dX12_water_0 : decode cX12_water 0 = .ok (.aload_n 0, 1) := by decide +kernel
theorem dX12_water_1 : decode cX12_water 1 = .ok (.iconst 0, 1) := by decide +kernel
theorem dX12_water_2 : decode cX12_water 2 = .ok (.putfield 122, 3) := by decide +kernel
theorem dX12_water_5 : decode cX12_water 5 = .ok (.aload_n 0, 1) := by decide +kernel
theorem dX12_water_6 : decode cX12_water 6 = .ok (.iconst 0, 1) := by decide +kernel
theorem dX12_water_7 : decode cX12_water 7 = .ok (.putfield 125, 3) := by decide +kernel
theorem dX12_water_10 : decode cX12_water 10 = .ok (.iload_n 1, 1) := by decide +kernel
theorem dX12_water_11 : decode cX12_water 11 = .ok (.invokestatic 280, 3) := by decide +kernel
theorem dX12_water_14 : decode cX12_water 14 = .ok (.ifCond .ne 9, 3) := by decide +kernel
theorem dX12_water_17 : decode cX12_water 17 = .ok (.aload_n 0, 1) := by decide +kernel
theorem dX12_water_18 : decode cX12_water 18 = .ok (.iconst 2, 1) := by decide +kernel
theorem dX12_water_19 : decode cX12_water 19 = .ok (.invokevirtual 283, 3) := by decide +kernel
theorem dX12_water_22 : decode cX12_water 22 = .ok (.ireturn, 1) := by decide +kernel
theorem dX12_water_23 : decode cX12_water 23 = .ok (.iload_n 2, 1) := by decide +kernel
theorem dX12_water_24 : decode cX12_water 24 = .ok (.invokestatic 528, 3) := by decide +kernel
theorem dX12_water_27 : decode cX12_water 27 = .ok (.ifCond .ne 9, 3) := by decide +kernel
theorem dX12_water_30 : decode cX12_water 30 = .ok (.aload_n 0, 1) := by decide +kernel
theorem dX12_water_31 : decode cX12_water 31 = .ok (.iconst 5, 1) := by decide +kernel
theorem dX12_water_32 : decode cX12_water 32 = .ok (.invokevirtual 283, 3) := by decide +kernel
theorem dX12_water_35 : decode cX12_water 35 = .ok (.ireturn, 1) := by decide +kernel
theorem dX12_water_36 : decode cX12_water 36 = .ok (.aload_n 0, 1) := by decide +kernel
theorem dX12_water_37 : decode cX12_water 37 = .ok (.iload_n 1, 1) := by decide +kernel
theorem dX12_water_38 : decode cX12_water 38 = .ok (.iload_n 2, 1) := by decide +kernel
theorem dX12_water_39 : decode cX12_water 39 = .ok (.iload_n 3, 1) := by decide +kernel
theorem dX12_water_40 : decode cX12_water 40 = .ok (.iload 4, 2) := by decide +kernel
theorem dX12_water_42 : decode cX12_water 42 = .ok (.iload 5, 2) := by decide +kernel
theorem dX12_water_44 : decode cX12_water 44 = .ok (.invokevirtual 538, 3) := by decide +kernel
theorem dX12_water_47 : decode cX12_water 47 = .ok (.istore 6, 2) := by decide +kernel
theorem dX12_water_49 : decode cX12_water 49 = .ok (.iload 6, 2) := by decide +kernel
theorem dX12_water_51 : decode cX12_water 51 = .ok (.ifCond .ge 12, 3) := by decide +kernel
theorem dX12_water_54 : decode cX12_water 54 = .ok (.aload_n 0, 1) := by decide +kernel
theorem dX12_water_55 : decode cX12_water 55 = .ok (.bipush 8, 2) := by decide +kernel
theorem dX12_water_57 : decode cX12_water 57 = .ok (.invokevirtual 283, 3) := by decide +kernel
theorem dX12_water_60 : decode cX12_water 60 = .ok (.goto 5, 3) := by decide +kernel
theorem dX12_water_63 : decode cX12_water 63 = .ok (.iload 6, 2) := by decide +kernel
theorem dX12_water_65 : decode cX12_water 65 = .ok (.ireturn, 1) := by decide +kernel
noncomputable def f_X12_water (v1 : Int32) (v2 : Int32) (v3 : Bool) (v4 : Bool) (v5 : Int32) (σ : am_H) : Option (Int32 × am_H) :=
  (some (am_wI σ 12 0 1 0)).bind fun s1 =>
  (some (am_wI s1 12 0 0 0)).bind fun s2 =>
  (f_X12_isMachine v1 s2).bind fun p3 =>
  if p3 = true then
   ((f_X12_isDay v2 s2).bind fun p5 =>
   if p5 = true then
    ((f_X12_waterOf v1 v2 v3 v4 v5 s2).bind fun p7 =>
    if p7 < 0 then
     ((f_X12_refuse 8 s2).bind fun p9 =>
     some (p9.1, p9.2))
    else
    some (p7, s2))
   else
   (f_X12_refuse 5 s2).bind fun p10 =>
   some (p10.1, p10.2))
  else
  (f_X12_refuse 2 s2).bind fun p11 =>
  some (p11.1, p11.2)
set_option maxRecDepth 100000 in
set_option maxHeartbeats 4000000 in
theorem q_X12_water {X : am_X} (hX : am_ks X = am_ksM) {Q : Option Value → am_H → Prop} (v1 : Int32) (v2 : Int32) (v3 : Bool) (v4 : Bool) (v5 : Int32) (σ : am_H) {o : Int32 × am_H} (hf : f_X12_water v1 v2 v3 v4 v5 σ = some o) (hk : Q (some (.int o.1)) o.2) : am_G X gm_X12_water Q 0 [(0, .ref (am_ad X 12 0)), (1, .int v1), (2, .int v2), (3, .int (am_b v3)), (4, .int (am_b v4)), (5, .int v5)] [] σ := by
  unfold f_X12_water at hf
  refine g_aload_n (pc := 0) 0 rfl dX12_water_0 rfl ?_
  refine g_iconst (pc := 1) (v := 0) dX12_water_1 (by decide) ?_
  obtain ⟨s1, hs1, hf⟩ := am_bd hf
  refine g_setI (pc := 2) (in_12 hX (by omega)) fr_X12_122 dX12_water_2 (Option.some.inj hs1) ?_
  refine g_aload_n (pc := 5) 0 rfl dX12_water_5 rfl ?_
  refine g_iconst (pc := 6) (v := 0) dX12_water_6 (by decide) ?_
  obtain ⟨s2, hs2, hf⟩ := am_bd hf
  refine g_setI (pc := 7) (in_12 hX (by omega)) fr_X12_125 dX12_water_7 (Option.some.inj hs2) ?_
  refine g_iload_n (pc := 10) 1 rfl dX12_water_10 rfl ?_
  obtain ⟨p3, hp3, hf⟩ := am_bd hf
  refine g_cS (pc := 11) (As := [.int v1]) (st := []) (st1 := [.int (am_b p3)]) mS_X12_isMachine ln_X12_280 rfl (Nat.le_of_ble_eq_true rfl) (Nat.le_of_ble_eq_true rfl) (k_X12_isMachine hX v1 s2 hp3) dX12_water_11 rfl rfl ?_
  refine bt_ne (pc := 14) 23 dX12_water_14 rfl (fun c4 => ?_) (fun c4 => ?_)
  · replace hf := am_ifT c4 hf
    refine g_iload_n (pc := 23) 2 rfl dX12_water_23 rfl ?_
    obtain ⟨p5, hp5, hf⟩ := am_bd hf
    refine g_cS (pc := 24) (As := [.int v2]) (st := []) (st1 := [.int (am_b p5)]) mS_X12_isDay ln_X12_528 rfl (Nat.le_of_ble_eq_true rfl) (Nat.le_of_ble_eq_true rfl) (k_X12_isDay hX v2 s2 hp5) dX12_water_24 rfl rfl ?_
    refine bt_ne (pc := 27) 36 dX12_water_27 rfl (fun c6 => ?_) (fun c6 => ?_)
    · replace hf := am_ifT c6 hf
      refine g_aload_n (pc := 36) 0 rfl dX12_water_36 rfl ?_
      refine g_iload_n (pc := 37) 1 rfl dX12_water_37 rfl ?_
      refine g_iload_n (pc := 38) 2 rfl dX12_water_38 rfl ?_
      refine g_iload_n (pc := 39) 3 rfl dX12_water_39 rfl ?_
      refine g_iload (pc := 40) 4 rfl dX12_water_40 ?_
      refine g_iload (pc := 42) 5 rfl dX12_water_42 ?_
      obtain ⟨p7, hp7, hf⟩ := am_bd hf
      refine g_cV (pc := 44) (As := [.int v1, .int v2, .int (am_b v3), .int (am_b v4), .int v5]) (st := []) (st1 := [.int p7]) (in_12 hX (by omega)) kk_12 mV_X12_waterOf ln_X12_538 rfl (Nat.le_of_ble_eq_true rfl) (Nat.le_of_ble_eq_true rfl) (k_X12_waterOf hX v1 v2 v3 v4 v5 s2 hp7) dX12_water_44 rfl rfl ?_
      refine g_istore (pc := 47) [(6, .int p7), (0, .ref (am_ad X 12 0)), (1, .int v1), (2, .int v2), (3, .int (am_b v3)), (4, .int (am_b v4)), (5, .int v5)] dX12_water_47 (Nat.le_of_ble_eq_true rfl) rfl ?_
      refine g_iload (pc := 49) 0 rfl dX12_water_49 ?_
      refine bz_ge (pc := 51) 63 dX12_water_51 rfl (fun c8 => ?_) (fun c8 => ?_)
      · replace hf := am_ifT c8 hf
        refine g_aload_n (pc := 54) 1 rfl dX12_water_54 rfl ?_
        refine g_bipush (pc := 55) (v := 8) dX12_water_55 (by decide) ?_
        obtain ⟨p9, hp9, hf⟩ := am_bd hf
        refine g_cV (pc := 57) (As := [.int 8]) (st := []) (st1 := [.int p9.1]) (in_12 hX (by omega)) kk_12 mV_X12_refuse ln_X12_283 rfl (Nat.le_of_ble_eq_true rfl) (Nat.le_of_ble_eq_true rfl) (k_X12_refuse hX 8 s2 hp9) dX12_water_57 rfl rfl ?_
        refine g_goto (pc := 60) 65 dX12_water_60 rfl ?_
        have ho := Option.some.inj hf
        subst ho
        exact g_ireturn (pc := 65) (st := []) rfl dX12_water_65 hk
      replace hf := am_ifF c8 hf
      refine g_iload (pc := 63) 0 rfl dX12_water_63 ?_
      have ho := Option.some.inj hf
      subst ho
      exact g_ireturn (pc := 65) (st := []) rfl dX12_water_65 hk
    replace hf := am_ifF c6 hf
    refine g_aload_n (pc := 30) 0 rfl dX12_water_30 rfl ?_
    refine g_iconst (pc := 31) (v := 5) dX12_water_31 (by decide) ?_
    obtain ⟨p10, hp10, hf⟩ := am_bd hf
    refine g_cV (pc := 32) (As := [.int 5]) (st := []) (st1 := [.int p10.1]) (in_12 hX (by omega)) kk_12 mV_X12_refuse ln_X12_283 rfl (Nat.le_of_ble_eq_true rfl) (Nat.le_of_ble_eq_true rfl) (k_X12_refuse hX 5 s2 hp10) dX12_water_32 rfl rfl ?_
    have ho := Option.some.inj hf
    subst ho
    exact g_ireturn (pc := 35) (st := []) rfl dX12_water_35 hk
  replace hf := am_ifF c4 hf
  refine g_aload_n (pc := 17) 0 rfl dX12_water_17 rfl ?_
  refine g_iconst (pc := 18) (v := 2) dX12_water_18 (by decide) ?_
  obtain ⟨p11, hp11, hf⟩ := am_bd hf
  refine g_cV (pc := 19) (As := [.int 2]) (st := []) (st1 := [.int p11.1]) (in_12 hX (by omega)) kk_12 mV_X12_refuse ln_X12_283 rfl (Nat.le_of_ble_eq_true rfl) (Nat.le_of_ble_eq_true rfl) (k_X12_refuse hX 2 s2 hp11) dX12_water_19 rfl rfl ?_
  have ho := Option.some.inj hf
  subst ho
  exact g_ireturn (pc := 22) (st := []) rfl dX12_water_22 hk
theorem k_X12_water {X : am_X} (hX : am_ks X = am_ksM) (v1 : Int32) (v2 : Int32) (v3 : Bool) (v4 : Bool) (v5 : Int32) (σ : am_H) {o : Int32 × am_H} (hf : f_X12_water v1 v2 v3 v4 v5 σ = some o) : am_C X gm_X12_water [.ref (am_ad X 12 0), .int v1, .int v2, .int (am_b v3), .int (am_b v4), .int v5] σ (am_is (some (.int o.1)) o.2) :=
  am_ofG rfl (Nat.le_of_ble_eq_true rfl) rfl (q_X12_water hX v1 v2 v3 v4 v5 σ hf ⟨rfl, rfl⟩)
theorem dX12_range_0 : decode cX12_range 0 = .ok (.aload_n 0, 1) := by decide +kernel
theorem dX12_range_1 : decode cX12_range 1 = .ok (.iconst 0, 1) := by decide +kernel
theorem dX12_range_2 : decode cX12_range 2 = .ok (.putfield 122, 3) := by decide +kernel
theorem dX12_range_5 : decode cX12_range 5 = .ok (.aload_n 0, 1) := by decide +kernel
theorem dX12_range_6 : decode cX12_range 6 = .ok (.iconst 0, 1) := by decide +kernel
theorem dX12_range_7 : decode cX12_range 7 = .ok (.putfield 125, 3) := by decide +kernel
theorem dX12_range_10 : decode cX12_range 10 = .ok (.iload_n 1, 1) := by decide +kernel
theorem dX12_range_11 : decode cX12_range 11 = .ok (.invokestatic 280, 3) := by decide +kernel
theorem dX12_range_14 : decode cX12_range 14 = .ok (.ifCond .ne 9, 3) := by decide +kernel
theorem dX12_range_17 : decode cX12_range 17 = .ok (.aload_n 0, 1) := by decide +kernel
theorem dX12_range_18 : decode cX12_range 18 = .ok (.iconst 2, 1) := by decide +kernel
theorem dX12_range_19 : decode cX12_range 19 = .ok (.invokevirtual 283, 3) := by decide +kernel
theorem dX12_range_22 : decode cX12_range 22 = .ok (.ireturn, 1) := by decide +kernel
theorem dX12_range_23 : decode cX12_range 23 = .ok (.iload_n 2, 1) := by decide +kernel
theorem dX12_range_24 : decode cX12_range 24 = .ok (.invokestatic 528, 3) := by decide +kernel
theorem dX12_range_27 : decode cX12_range 27 = .ok (.ifCond .ne 9, 3) := by decide +kernel
theorem dX12_range_30 : decode cX12_range 30 = .ok (.aload_n 0, 1) := by decide +kernel
theorem dX12_range_31 : decode cX12_range 31 = .ok (.iconst 5, 1) := by decide +kernel
theorem dX12_range_32 : decode cX12_range 32 = .ok (.invokevirtual 283, 3) := by decide +kernel
theorem dX12_range_35 : decode cX12_range 35 = .ok (.ireturn, 1) := by decide +kernel
theorem dX12_range_36 : decode cX12_range 36 = .ok (.aload_n 0, 1) := by decide +kernel
theorem dX12_range_37 : decode cX12_range 37 = .ok (.iload_n 1, 1) := by decide +kernel
theorem dX12_range_38 : decode cX12_range 38 = .ok (.bipush 24, 2) := by decide +kernel
theorem dX12_range_40 : decode cX12_range 40 = .ok (.iload_n 2, 1) := by decide +kernel
theorem dX12_range_41 : decode cX12_range 41 = .ok (.imul, 1) := by decide +kernel
theorem dX12_range_42 : decode cX12_range 42 = .ok (.iload_n 3, 1) := by decide +kernel
theorem dX12_range_43 : decode cX12_range 43 = .ok (.invokevirtual 334, 3) := by decide +kernel
theorem dX12_range_46 : decode cX12_range 46 = .ok (.istore 4, 2) := by decide +kernel
theorem dX12_range_48 : decode cX12_range 48 = .ok (.iload 4, 2) := by decide +kernel
theorem dX12_range_50 : decode cX12_range 50 = .ok (.istore 5, 2) := by decide +kernel
theorem dX12_range_52 : decode cX12_range 52 = .ok (.bipush 24, 2) := by decide +kernel
theorem dX12_range_54 : decode cX12_range 54 = .ok (.iload_n 2, 1) := by decide +kernel
theorem dX12_range_55 : decode cX12_range 55 = .ok (.imul, 1) := by decide +kernel
theorem dX12_range_56 : decode cX12_range 56 = .ok (.iconst 1, 1) := by decide +kernel
theorem dX12_range_57 : decode cX12_range 57 = .ok (.iadd, 1) := by decide +kernel
theorem dX12_range_58 : decode cX12_range 58 = .ok (.istore 6, 2) := by decide +kernel
theorem dX12_range_60 : decode cX12_range 60 = .ok (.iload 6, 2) := by decide +kernel
theorem dX12_range_62 : decode cX12_range 62 = .ok (.iload_n 2, 1) := by decide +kernel
theorem dX12_range_63 : decode cX12_range 63 = .ok (.invokestatic 531, 3) := by decide +kernel
theorem dX12_range_66 : decode cX12_range 66 = .ok (.if_icmp .gt 39, 3) := by decide +kernel
theorem dX12_range_69 : decode cX12_range 69 = .ok (.iload 4, 2) := by decide +kernel
theorem dX12_range_71 : decode cX12_range 71 = .ok (.aload_n 0, 1) := by decide +kernel
theorem dX12_range_72 : decode cX12_range 72 = .ok (.iload_n 1, 1) := by decide +kernel
theorem dX12_range_73 : decode cX12_range 73 = .ok (.iload 6, 2) := by decide +kernel
theorem dX12_range_75 : decode cX12_range 75 = .ok (.iload_n 3, 1) := by decide +kernel
theorem dX12_range_76 : decode cX12_range 76 = .ok (.invokevirtual 334, 3) := by decide +kernel
theorem dX12_range_79 : decode cX12_range 79 = .ok (.invokestatic 438, 3) := by decide +kernel
theorem dX12_range_82 : decode cX12_range 82 = .ok (.istore 4, 2) := by decide +kernel
theorem dX12_range_84 : decode cX12_range 84 = .ok (.iload 5, 2) := by decide +kernel
theorem dX12_range_86 : decode cX12_range 86 = .ok (.aload_n 0, 1) := by decide +kernel
theorem dX12_range_87 : decode cX12_range 87 = .ok (.iload_n 1, 1) := by decide +kernel
theorem dX12_range_88 : decode cX12_range 88 = .ok (.iload 6, 2) := by decide +kernel
theorem dX12_range_90 : decode cX12_range 90 = .ok (.iload_n 3, 1) := by decide +kernel
theorem dX12_range_91 : decode cX12_range 91 = .ok (.invokevirtual 334, 3) := by decide +kernel
theorem dX12_range_94 : decode cX12_range 94 = .ok (.invokestatic 477, 3) := by decide +kernel
theorem dX12_range_97 : decode cX12_range 97 = .ok (.istore 5, 2) := by decide +kernel
theorem dX12_range_99 : decode cX12_range 99 = .ok (.iinc 6 1, 3) := by decide +kernel
theorem dX12_range_102 : decode cX12_range 102 = .ok (.goto (-42), 3) := by decide +kernel
theorem dX12_range_105 : decode cX12_range 105 = .ok (.iload 4, 2) := by decide +kernel
theorem dX12_range_107 : decode cX12_range 107 = .ok (.iload 5, 2) := by decide +kernel
theorem dX12_range_109 : decode cX12_range 109 = .ok (.isub, 1) := by decide +kernel
theorem dX12_range_110 : decode cX12_range 110 = .ok (.ireturn, 1) := by decide +kernel
noncomputable def f_X12_range_60 (v1 : Int32) (v2 : Int32) (v3 : Bool) (v4 : Int32) (v5 : Int32) (v6 : Int32) (σ : am_H) : Option ((Int32 × Int32 × Int32) ⊕ (Int32 × Int32)) :=
  (f_X12_lastHour v2 σ).bind fun p1 =>
  if p1 < v6 then
   (some (.inr (v4, v5)))
  else
  (f_X12_heightOf v1 v6 v3 σ).bind fun p3 =>
  (f_X12_heightOf v1 v6 v3 σ).bind fun p4 =>
  some (.inl ((am_mx v4 p3), (am_mn v5 p4), (v6 + 1)))
set_option maxRecDepth 100000 in
set_option maxHeartbeats 4000000 in
theorem q_X12_range_60 {X : am_X} (hX : am_ks X = am_ksM) {Q : Option Value → am_H → Prop} (v1 : Int32) (v2 : Int32) (v3 : Bool) (v4 : Int32) (v5 : Int32) (v6 : Int32) (σ : am_H) {o : (Int32 × Int32 × Int32) ⊕ (Int32 × Int32)} (hf : f_X12_range_60 v1 v2 v3 v4 v5 v6 σ = some o) (hk0 : ∀ s, o = .inl s → am_G X gm_X12_range Q 60 [(0, .ref (am_ad X 12 0)), (1, .int v1), (2, .int v2), (3, .int (am_b v3)), (4, .int s.1), (5, .int s.2.1), (6, .int s.2.2)] [] σ) (hk1 : ∀ t, o = .inr t → am_G X gm_X12_range Q 105 [(4, .int t.1), (5, .int t.2)] [] σ) : am_G X gm_X12_range Q 60 [(0, .ref (am_ad X 12 0)), (1, .int v1), (2, .int v2), (3, .int (am_b v3)), (4, .int v4), (5, .int v5), (6, .int v6)] [] σ := by
  unfold f_X12_range_60 at hf
  refine g_iload (pc := 60) 6 rfl dX12_range_60 ?_
  refine g_iload_n (pc := 62) 2 rfl dX12_range_62 rfl ?_
  obtain ⟨p1, hp1, hf⟩ := am_bd hf
  refine g_cS (pc := 63) (As := [.int v2]) (st := [.int v6]) (st1 := [.int p1, .int v6]) mS_X12_lastHour ln_X12_531 rfl (Nat.le_of_ble_eq_true rfl) (Nat.le_of_ble_eq_true rfl) (k_X12_lastHour hX v2 σ hp1) dX12_range_63 rfl rfl ?_
  refine bi_gt (pc := 66) 105 dX12_range_66 rfl (fun c2 => ?_) (fun c2 => ?_)
  · replace hf := am_ifT c2 hf
    have hz := hk1 _ (Option.some.inj hf).symm
    exact am_sub [4, 5] rfl hz
  replace hf := am_ifF c2 hf
  refine g_iload (pc := 69) 4 rfl dX12_range_69 ?_
  refine g_aload_n (pc := 71) 0 rfl dX12_range_71 rfl ?_
  refine g_iload_n (pc := 72) 1 rfl dX12_range_72 rfl ?_
  refine g_iload (pc := 73) 6 rfl dX12_range_73 ?_
  refine g_iload_n (pc := 75) 3 rfl dX12_range_75 rfl ?_
  obtain ⟨p3, hp3, hf⟩ := am_bd hf
  refine g_cV (pc := 76) (As := [.int v1, .int v6, .int (am_b v3)]) (st := [.int v4]) (st1 := [.int p3, .int v4]) (in_12 hX (by omega)) kk_12 mV_X12_heightOf ln_X12_334 rfl (Nat.le_of_ble_eq_true rfl) (Nat.le_of_ble_eq_true rfl) (k_X12_heightOf hX v1 v6 v3 σ hp3) dX12_range_76 rfl rfl ?_
  refine g_mmax (pc := 79) (Nat.le_of_ble_eq_true rfl) (Nat.le_of_ble_eq_true rfl) sp_X12_438 dX12_range_79 ?_
  refine g_istore (pc := 82) [(4, .int (am_mx v4 p3)), (0, .ref (am_ad X 12 0)), (1, .int v1), (2, .int v2), (3, .int (am_b v3)), (5, .int v5), (6, .int v6)] dX12_range_82 (Nat.le_of_ble_eq_true rfl) rfl ?_
  refine g_iload (pc := 84) 5 rfl dX12_range_84 ?_
  refine g_aload_n (pc := 86) 1 rfl dX12_range_86 rfl ?_
  refine g_iload_n (pc := 87) 2 rfl dX12_range_87 rfl ?_
  refine g_iload (pc := 88) 6 rfl dX12_range_88 ?_
  refine g_iload_n (pc := 90) 4 rfl dX12_range_90 rfl ?_
  obtain ⟨p4, hp4, hf⟩ := am_bd hf
  refine g_cV (pc := 91) (As := [.int v1, .int v6, .int (am_b v3)]) (st := [.int v5]) (st1 := [.int p4, .int v5]) (in_12 hX (by omega)) kk_12 mV_X12_heightOf ln_X12_334 rfl (Nat.le_of_ble_eq_true rfl) (Nat.le_of_ble_eq_true rfl) (k_X12_heightOf hX v1 v6 v3 σ hp4) dX12_range_91 rfl rfl ?_
  refine g_mmin (pc := 94) (Nat.le_of_ble_eq_true rfl) (Nat.le_of_ble_eq_true rfl) sp_X12_477 dX12_range_94 ?_
  refine g_istore (pc := 97) [(5, .int (am_mn v5 p4)), (4, .int (am_mx v4 p3)), (0, .ref (am_ad X 12 0)), (1, .int v1), (2, .int v2), (3, .int (am_b v3)), (6, .int v6)] dX12_range_97 (Nat.le_of_ble_eq_true rfl) rfl ?_
  refine g_iinc (pc := 99) (v := (v6 + 1)) 6 [(6, .int (v6 + 1)), (5, .int (am_mn v5 p4)), (4, .int (am_mx v4 p3)), (0, .ref (am_ad X 12 0)), (1, .int v1), (2, .int v2), (3, .int (am_b v3))] dX12_range_99 rfl rfl (Nat.le_of_ble_eq_true rfl) rfl ?_
  refine g_goto (pc := 102) 60 dX12_range_102 rfl ?_
  have hz := hk0 _ (Option.some.inj hf).symm
  exact am_sub [3, 4, 5, 6, 2, 1, 0] rfl hz
set_option maxRecDepth 100000 in
set_option maxHeartbeats 4000000 in
theorem l_X12_range_60 {X : am_X} (hX : am_ks X = am_ksM) {Q : Option Value → am_H → Prop} (v1 : Int32) (v2 : Int32) (v3 : Bool) (σ : am_H) (s : Int32 × Int32 × Int32) {o : Int32 × Int32} (hf : am_loop (fun s => f_X12_range_60 v1 v2 v3 s.1 s.2.1 s.2.2 σ) s = some o) (hk1 : ∀ t, o = t → am_G X gm_X12_range Q 105 [(4, .int t.1), (5, .int t.2)] [] σ) : am_G X gm_X12_range Q 60 [(0, .ref (am_ad X 12 0)), (1, .int v1), (2, .int v2), (3, .int (am_b v3)), (4, .int s.1), (5, .int s.2.1), (6, .int s.2.2)] [] σ := by
  refine am_loop_ind (P := fun s => am_G X gm_X12_range Q 60 [(0, .ref (am_ad X 12 0)), (1, .int v1), (2, .int v2), (3, .int (am_b v3)), (4, .int s.1), (5, .int s.2.1), (6, .int s.2.2)] [] σ) (K := fun r => r = o) ?_ hf rfl
  intro s o1 hb hi hr
  exact q_X12_range_60 hX v1 v2 v3 s.1 s.2.1 s.2.2  σ hb hi (fun t e => hk1 t (hr _ e).symm)
noncomputable def f_X12_range (v1 : Int32) (v2 : Int32) (v3 : Bool) (σ : am_H) : Option (Int32 × am_H) :=
  (some (am_wI σ 12 0 1 0)).bind fun s1 =>
  (some (am_wI s1 12 0 0 0)).bind fun s2 =>
  (f_X12_isMachine v1 s2).bind fun p3 =>
  if p3 = true then
   ((f_X12_isDay v2 s2).bind fun p5 =>
   if p5 = true then
    ((f_X12_heightOf v1 (24 * v2) v3 s2).bind fun p7 =>
    (am_loop (fun s => f_X12_range_60 v1 v2 v3 s.1 s.2.1 s.2.2 s2) (p7, p7, ((24 * v2) + 1))).bind fun w8 =>
    some ((w8.1 - w8.2), s2))
   else
   (f_X12_refuse 5 s2).bind fun p9 =>
   some (p9.1, p9.2))
  else
  (f_X12_refuse 2 s2).bind fun p10 =>
  some (p10.1, p10.2)
set_option maxRecDepth 100000 in
set_option maxHeartbeats 4000000 in
theorem q_X12_range {X : am_X} (hX : am_ks X = am_ksM) {Q : Option Value → am_H → Prop} (v1 : Int32) (v2 : Int32) (v3 : Bool) (σ : am_H) {o : Int32 × am_H} (hf : f_X12_range v1 v2 v3 σ = some o) (hk : Q (some (.int o.1)) o.2) : am_G X gm_X12_range Q 0 [(0, .ref (am_ad X 12 0)), (1, .int v1), (2, .int v2), (3, .int (am_b v3))] [] σ := by
  unfold f_X12_range at hf
  refine g_aload_n (pc := 0) 0 rfl dX12_range_0 rfl ?_
  refine g_iconst (pc := 1) (v := 0) dX12_range_1 (by decide) ?_
  obtain ⟨s1, hs1, hf⟩ := am_bd hf
  refine g_setI (pc := 2) (in_12 hX (by omega)) fr_X12_122 dX12_range_2 (Option.some.inj hs1) ?_
  refine g_aload_n (pc := 5) 0 rfl dX12_range_5 rfl ?_
  refine g_iconst (pc := 6) (v := 0) dX12_range_6 (by decide) ?_
  obtain ⟨s2, hs2, hf⟩ := am_bd hf
  refine g_setI (pc := 7) (in_12 hX (by omega)) fr_X12_125 dX12_range_7 (Option.some.inj hs2) ?_
  refine g_iload_n (pc := 10) 1 rfl dX12_range_10 rfl ?_
  obtain ⟨p3, hp3, hf⟩ := am_bd hf
  refine g_cS (pc := 11) (As := [.int v1]) (st := []) (st1 := [.int (am_b p3)]) mS_X12_isMachine ln_X12_280 rfl (Nat.le_of_ble_eq_true rfl) (Nat.le_of_ble_eq_true rfl) (k_X12_isMachine hX v1 s2 hp3) dX12_range_11 rfl rfl ?_
  refine bt_ne (pc := 14) 23 dX12_range_14 rfl (fun c4 => ?_) (fun c4 => ?_)
  · replace hf := am_ifT c4 hf
    refine g_iload_n (pc := 23) 2 rfl dX12_range_23 rfl ?_
    obtain ⟨p5, hp5, hf⟩ := am_bd hf
    refine g_cS (pc := 24) (As := [.int v2]) (st := []) (st1 := [.int (am_b p5)]) mS_X12_isDay ln_X12_528 rfl (Nat.le_of_ble_eq_true rfl) (Nat.le_of_ble_eq_true rfl) (k_X12_isDay hX v2 s2 hp5) dX12_range_24 rfl rfl ?_
    refine bt_ne (pc := 27) 36 dX12_range_27 rfl (fun c6 => ?_) (fun c6 => ?_)
    · replace hf := am_ifT c6 hf
      refine g_aload_n (pc := 36) 0 rfl dX12_range_36 rfl ?_
      refine g_iload_n (pc := 37) 1 rfl dX12_range_37 rfl ?_
      refine g_bipush (pc := 38) (v := 24) dX12_range_38 (by decide) ?_
      refine g_iload_n (pc := 40) 2 rfl dX12_range_40 rfl ?_
      refine g_imul (pc := 41) dX12_range_41 ?_
      refine g_iload_n (pc := 42) 3 rfl dX12_range_42 rfl ?_
      obtain ⟨p7, hp7, hf⟩ := am_bd hf
      refine g_cV (pc := 43) (As := [.int v1, .int (24 * v2), .int (am_b v3)]) (st := []) (st1 := [.int p7]) (in_12 hX (by omega)) kk_12 mV_X12_heightOf ln_X12_334 rfl (Nat.le_of_ble_eq_true rfl) (Nat.le_of_ble_eq_true rfl) (k_X12_heightOf hX v1 (24 * v2) v3 s2 hp7) dX12_range_43 rfl rfl ?_
      refine g_istore (pc := 46) [(4, .int p7), (0, .ref (am_ad X 12 0)), (1, .int v1), (2, .int v2), (3, .int (am_b v3))] dX12_range_46 (Nat.le_of_ble_eq_true rfl) rfl ?_
      refine g_iload (pc := 48) 0 rfl dX12_range_48 ?_
      refine g_istore (pc := 50) [(5, .int p7), (4, .int p7), (0, .ref (am_ad X 12 0)), (1, .int v1), (2, .int v2), (3, .int (am_b v3))] dX12_range_50 (Nat.le_of_ble_eq_true rfl) rfl ?_
      refine g_bipush (pc := 52) (v := 24) dX12_range_52 (by decide) ?_
      refine g_iload_n (pc := 54) 4 rfl dX12_range_54 rfl ?_
      refine g_imul (pc := 55) dX12_range_55 ?_
      refine g_iconst (pc := 56) (v := 1) dX12_range_56 (by decide) ?_
      refine g_iadd (pc := 57) dX12_range_57 ?_
      refine g_istore (pc := 58) [(6, .int ((24 * v2) + 1)), (5, .int p7), (4, .int p7), (0, .ref (am_ad X 12 0)), (1, .int v1), (2, .int v2), (3, .int (am_b v3))] dX12_range_58 (Nat.le_of_ble_eq_true rfl) rfl ?_
      obtain ⟨w8, hw8, hf⟩ := am_bd hf
      refine am_sub [3, 4, 5, 6, 2, 1, 0] rfl (l_X12_range_60 hX v1 v2 v3  s2 (p7, p7, ((24 * v2) + 1)) hw8 ?_)
      intro t e
      subst e
      refine g_iload (pc := 105) 0 rfl dX12_range_105 ?_
      refine g_iload (pc := 107) 1 rfl dX12_range_107 ?_
      refine g_isub (pc := 109) dX12_range_109 ?_
      have ho := Option.some.inj hf
      subst ho
      exact g_ireturn (pc := 110) (st := []) rfl dX12_range_110 hk
    replace hf := am_ifF c6 hf
    refine g_aload_n (pc := 30) 0 rfl dX12_range_30 rfl ?_
    refine g_iconst (pc := 31) (v := 5) dX12_range_31 (by decide) ?_
    obtain ⟨p9, hp9, hf⟩ := am_bd hf
    refine g_cV (pc := 32) (As := [.int 5]) (st := []) (st1 := [.int p9.1]) (in_12 hX (by omega)) kk_12 mV_X12_refuse ln_X12_283 rfl (Nat.le_of_ble_eq_true rfl) (Nat.le_of_ble_eq_true rfl) (k_X12_refuse hX 5 s2 hp9) dX12_range_32 rfl rfl ?_
    have ho := Option.some.inj hf
    subst ho
    exact g_ireturn (pc := 35) (st := []) rfl dX12_range_35 hk
  replace hf := am_ifF c4 hf
  refine g_aload_n (pc := 17) 0 rfl dX12_range_17 rfl ?_
  refine g_iconst (pc := 18) (v := 2) dX12_range_18 (by decide) ?_
  obtain ⟨p10, hp10, hf⟩ := am_bd hf
  refine g_cV (pc := 19) (As := [.int 2]) (st := []) (st1 := [.int p10.1]) (in_12 hX (by omega)) kk_12 mV_X12_refuse ln_X12_283 rfl (Nat.le_of_ble_eq_true rfl) (Nat.le_of_ble_eq_true rfl) (k_X12_refuse hX 2 s2 hp10) dX12_range_19 rfl rfl ?_
  have ho := Option.some.inj hf
  subst ho
  exact g_ireturn (pc := 22) (st := []) rfl dX12_range_22 hk
theorem k_X12_range {X : am_X} (hX : am_ks X = am_ksM) (v1 : Int32) (v2 : Int32) (v3 : Bool) (σ : am_H) {o : Int32 × am_H} (hf : f_X12_range v1 v2 v3 σ = some o) : am_C X gm_X12_range [.ref (am_ad X 12 0), .int v1, .int v2, .int (am_b v3)] σ (am_is (some (.int o.1)) o.2) :=
  am_ofG rfl (Nat.le_of_ble_eq_true rfl) rfl (q_X12_range hX v1 v2 v3 σ hf ⟨rfl, rfl⟩)
theorem dX12_gap_0 : decode cX12_gap 0 = .ok (.aload_n 0, 1) := by decide +kernel
theorem dX12_gap_1 : decode cX12_gap 1 = .ok (.iconst 0, 1) := by decide +kernel
theorem dX12_gap_2 : decode cX12_gap 2 = .ok (.putfield 122, 3) := by decide +kernel
theorem dX12_gap_5 : decode cX12_gap 5 = .ok (.aload_n 0, 1) := by decide +kernel
theorem dX12_gap_6 : decode cX12_gap 6 = .ok (.iconst 0, 1) := by decide +kernel
theorem dX12_gap_7 : decode cX12_gap 7 = .ok (.putfield 125, 3) := by decide +kernel
theorem dX12_gap_10 : decode cX12_gap 10 = .ok (.iload_n 1, 1) := by decide +kernel
theorem dX12_gap_11 : decode cX12_gap 11 = .ok (.invokestatic 280, 3) := by decide +kernel
theorem dX12_gap_14 : decode cX12_gap 14 = .ok (.ifCond .ne 9, 3) := by decide +kernel
theorem dX12_gap_17 : decode cX12_gap 17 = .ok (.aload_n 0, 1) := by decide +kernel
theorem dX12_gap_18 : decode cX12_gap 18 = .ok (.iconst 2, 1) := by decide +kernel
theorem dX12_gap_19 : decode cX12_gap 19 = .ok (.invokevirtual 283, 3) := by decide +kernel
theorem dX12_gap_22 : decode cX12_gap 22 = .ok (.ireturn, 1) := by decide +kernel
theorem dX12_gap_23 : decode cX12_gap 23 = .ok (.iload_n 2, 1) := by decide +kernel
theorem dX12_gap_24 : decode cX12_gap 24 = .ok (.invokestatic 528, 3) := by decide +kernel
theorem dX12_gap_27 : decode cX12_gap 27 = .ok (.ifCond .ne 9, 3) := by decide +kernel
theorem dX12_gap_30 : decode cX12_gap 30 = .ok (.aload_n 0, 1) := by decide +kernel
theorem dX12_gap_31 : decode cX12_gap 31 = .ok (.iconst 5, 1) := by decide +kernel
theorem dX12_gap_32 : decode cX12_gap 32 = .ok (.invokevirtual 283, 3) := by decide +kernel
theorem dX12_gap_35 : decode cX12_gap 35 = .ok (.ireturn, 1) := by decide +kernel
theorem dX12_gap_36 : decode cX12_gap 36 = .ok (.aload_n 0, 1) := by decide +kernel
theorem dX12_gap_37 : decode cX12_gap 37 = .ok (.iload_n 1, 1) := by decide +kernel
theorem dX12_gap_38 : decode cX12_gap 38 = .ok (.iload_n 2, 1) := by decide +kernel
theorem dX12_gap_39 : decode cX12_gap 39 = .ok (.iconst 1, 1) := by decide +kernel
theorem dX12_gap_40 : decode cX12_gap 40 = .ok (.iload_n 3, 1) := by decide +kernel
theorem dX12_gap_41 : decode cX12_gap 41 = .ok (.iload 4, 2) := by decide +kernel
theorem dX12_gap_43 : decode cX12_gap 43 = .ok (.invokevirtual 538, 3) := by decide +kernel
theorem dX12_gap_46 : decode cX12_gap 46 = .ok (.istore 5, 2) := by decide +kernel
theorem dX12_gap_48 : decode cX12_gap 48 = .ok (.iload 5, 2) := by decide +kernel
theorem dX12_gap_50 : decode cX12_gap 50 = .ok (.ifCond .ge 10, 3) := by decide +kernel
theorem dX12_gap_53 : decode cX12_gap 53 = .ok (.aload_n 0, 1) := by decide +kernel
theorem dX12_gap_54 : decode cX12_gap 54 = .ok (.bipush 8, 2) := by decide +kernel
theorem dX12_gap_56 : decode cX12_gap 56 = .ok (.invokevirtual 283, 3) := by decide +kernel
theorem dX12_gap_59 : decode cX12_gap 59 = .ok (.ireturn, 1) := by decide +kernel
theorem dX12_gap_60 : decode cX12_gap 60 = .ok (.iconst 1, 1) := by decide +kernel
theorem dX12_gap_61 : decode cX12_gap 61 = .ok (.istore 6, 2) := by decide +kernel
theorem dX12_gap_63 : decode cX12_gap 63 = .ok (.iload 6, 2) := by decide +kernel
theorem dX12_gap_65 : decode cX12_gap 65 = .ok (.sipush 200, 3) := by decide +kernel
theorem dX12_gap_68 : decode cX12_gap 68 = .ok (.if_icmp .gt 38, 3) := by decide +kernel
theorem dX12_gap_71 : decode cX12_gap 71 = .ok (.iload 5, 2) := by decide +kernel
theorem dX12_gap_73 : decode cX12_gap 73 = .ok (.iload 6, 2) := by decide +kernel
theorem dX12_gap_75 : decode cX12_gap 75 = .ok (.iadd, 1) := by decide +kernel
theorem dX12_gap_76 : decode cX12_gap 76 = .ok (.ldc_w 526, 3) := by decide +kernel
theorem dX12_gap_79 : decode cX12_gap 79 = .ok (.if_icmp .gt 27, 3) := by decide +kernel
theorem dX12_gap_82 : decode cX12_gap 82 = .ok (.aload_n 0, 1) := by decide +kernel
theorem dX12_gap_83 : decode cX12_gap 83 = .ok (.iload_n 1, 1) := by decide +kernel
theorem dX12_gap_84 : decode cX12_gap 84 = .ok (.iload 5, 2) := by decide +kernel
theorem dX12_gap_86 : decode cX12_gap 86 = .ok (.iload 6, 2) := by decide +kernel
theorem dX12_gap_88 : decode cX12_gap 88 = .ok (.iadd, 1) := by decide +kernel
theorem dX12_gap_89 : decode cX12_gap 89 = .ok (.iconst 1, 1) := by decide +kernel
theorem dX12_gap_90 : decode cX12_gap 90 = .ok (.iload_n 3, 1) := by decide +kernel
theorem dX12_gap_91 : decode cX12_gap 91 = .ok (.invokevirtual 534, 3) := by decide +kernel
theorem dX12_gap_94 : decode cX12_gap 94 = .ok (.ifCond .eq 6, 3) := by decide +kernel
theorem dX12_gap_97 : decode cX12_gap 97 = .ok (.iload 6, 2) := by decide +kernel
theorem dX12_gap_99 : decode cX12_gap 99 = .ok (.ireturn, 1) := by decide +kernel
theorem dX12_gap_100 : decode cX12_gap 100 = .ok (.iinc 6 1, 3) := by decide +kernel
theorem dX12_gap_103 : decode cX12_gap 103 = .ok (.goto (-40), 3) := by decide +kernel
theorem dX12_gap_106 : decode cX12_gap 106 = .ok (.aload_n 0, 1) := by decide +kernel
theorem dX12_gap_107 : decode cX12_gap 107 = .ok (.bipush 8, 2) := by decide +kernel
theorem dX12_gap_109 : decode cX12_gap 109 = .ok (.invokevirtual 283, 3) := by decide +kernel
theorem dX12_gap_112 : decode cX12_gap 112 = .ok (.ireturn, 1) := by decide +kernel
noncomputable def f_X12_gap_63 (v1 : Int32) (v3 : Bool) (v5 : Int32) (v6 : Int32) (σ : am_H) : Option ((Int32) ⊕ ((Int32) ⊕ (Unit))) :=
  if 200 < v6 then
   (some (.inr (.inr ())))
  else
  if 99999 < (v5 + v6) then
   (some (.inr (.inr ())))
  else
  (f_X12_isWater v1 (v5 + v6) true v3 σ).bind fun p3 =>
  if p3 = true then
   (some (.inr (.inl v6)))
  else
  some (.inl (v6 + 1))
set_option maxRecDepth 100000 in
set_option maxHeartbeats 4000000 in
theorem q_X12_gap_63 {X : am_X} (hX : am_ks X = am_ksM) {Q : Option Value → am_H → Prop} (v1 : Int32) (v3 : Bool) (v5 : Int32) (v6 : Int32) (σ : am_H) {o : (Int32) ⊕ ((Int32) ⊕ (Unit))} (hf : f_X12_gap_63 v1 v3 v5 v6 σ = some o) (hk0 : ∀ s, o = .inl s → am_G X gm_X12_gap Q 63 [(0, .ref (am_ad X 12 0)), (1, .int v1), (3, .int (am_b v3)), (5, .int v5), (6, .int s)] [] σ) (hk1 : ∀ t, o = .inr (.inl t) → am_G X gm_X12_gap Q 97 [(6, .int t)] [] σ) (hk2 : ∀ t, o = .inr (.inr t) → am_G X gm_X12_gap Q 106 [(0, .ref (am_ad X 12 0))] [] σ) : am_G X gm_X12_gap Q 63 [(0, .ref (am_ad X 12 0)), (1, .int v1), (3, .int (am_b v3)), (5, .int v5), (6, .int v6)] [] σ := by
  unfold f_X12_gap_63 at hf
  refine g_iload (pc := 63) 4 rfl dX12_gap_63 ?_
  refine g_sipush (pc := 65) (v := 200) dX12_gap_65 (by decide) ?_
  refine bi_gt (pc := 68) 106 dX12_gap_68 rfl (fun c1 => ?_) (fun c1 => ?_)
  · replace hf := am_ifT c1 hf
    have hz := hk2 _ (Option.some.inj hf).symm
    exact am_sub [0] rfl hz
  replace hf := am_ifF c1 hf
  refine g_iload (pc := 71) 3 rfl dX12_gap_71 ?_
  refine g_iload (pc := 73) 4 rfl dX12_gap_73 ?_
  refine g_iadd (pc := 75) dX12_gap_75 ?_
  refine g_ldcw (pc := 76) (v := 99999) (tb_10 (List.mem_of_getElem? (i := 31) (by decide +kernel))) dX12_gap_76 ?_
  refine bi_gt (pc := 79) 106 dX12_gap_79 rfl (fun c2 => ?_) (fun c2 => ?_)
  · replace hf := am_ifT c2 hf
    have hz := hk2 _ (Option.some.inj hf).symm
    exact am_sub [0] rfl hz
  replace hf := am_ifF c2 hf
  refine g_aload_n (pc := 82) 0 rfl dX12_gap_82 rfl ?_
  refine g_iload_n (pc := 83) 1 rfl dX12_gap_83 rfl ?_
  refine g_iload (pc := 84) 3 rfl dX12_gap_84 ?_
  refine g_iload (pc := 86) 4 rfl dX12_gap_86 ?_
  refine g_iadd (pc := 88) dX12_gap_88 ?_
  refine g_iconst (pc := 89) (v := 1) dX12_gap_89 (by decide) ?_
  refine g_iload_n (pc := 90) 2 rfl dX12_gap_90 rfl ?_
  obtain ⟨p3, hp3, hf⟩ := am_bd hf
  refine g_cV (pc := 91) (As := [.int v1, .int (v5 + v6), .int (am_b true), .int (am_b v3)]) (st := []) (st1 := [.int (am_b p3)]) (in_12 hX (by omega)) kk_12 mV_X12_isWater ln_X12_534 rfl (Nat.le_of_ble_eq_true rfl) (Nat.le_of_ble_eq_true rfl) (k_X12_isWater hX v1 (v5 + v6) true v3 σ hp3) dX12_gap_91 rfl rfl ?_
  refine bt_eq (pc := 94) 100 dX12_gap_94 rfl (fun c4 => ?_) (fun c4 => ?_)
  · replace hf := am_ifT c4 hf
    have hz := hk1 _ (Option.some.inj hf).symm
    exact am_sub [4] rfl hz
  replace hf := am_ifF c4 hf
  refine g_iinc (pc := 100) (v := (v6 + 1)) 4 [(6, .int (v6 + 1)), (0, .ref (am_ad X 12 0)), (1, .int v1), (3, .int (am_b v3)), (5, .int v5)] dX12_gap_100 rfl rfl (Nat.le_of_ble_eq_true rfl) rfl ?_
  refine g_goto (pc := 103) 63 dX12_gap_103 rfl ?_
  have hz := hk0 _ (Option.some.inj hf).symm
  exact am_sub [1, 2, 3, 4, 0] rfl hz
set_option maxRecDepth 100000 in
set_option maxHeartbeats 4000000 in
theorem l_X12_gap_63 {X : am_X} (hX : am_ks X = am_ksM) {Q : Option Value → am_H → Prop} (v1 : Int32) (v3 : Bool) (v5 : Int32) (σ : am_H) (s : Int32) {o : (Int32) ⊕ (Unit)} (hf : am_loop (fun s => f_X12_gap_63 v1 v3 v5 s σ) s = some o) (hk1 : ∀ t, o = (.inl t) → am_G X gm_X12_gap Q 97 [(6, .int t)] [] σ) (hk2 : ∀ t, o = (.inr t) → am_G X gm_X12_gap Q 106 [(0, .ref (am_ad X 12 0))] [] σ) : am_G X gm_X12_gap Q 63 [(0, .ref (am_ad X 12 0)), (1, .int v1), (3, .int (am_b v3)), (5, .int v5), (6, .int s)] [] σ := by
  refine am_loop_ind (P := fun s => am_G X gm_X12_gap Q 63 [(0, .ref (am_ad X 12 0)), (1, .int v1), (3, .int (am_b v3)), (5, .int v5), (6, .int s)] [] σ) (K := fun r => r = o) ?_ hf rfl
  intro s o1 hb hi hr
  exact q_X12_gap_63 hX v1 v3 v5 s  σ hb hi (fun t e => hk1 t (hr _ e).symm) (fun t e => hk2 t (hr _ e).symm)
noncomputable def f_X12_gap (v1 : Int32) (v2 : Int32) (v3 : Bool) (v4 : Int32) (σ : am_H) : Option (Int32 × am_H) :=
  (some (am_wI σ 12 0 1 0)).bind fun s1 =>
  (some (am_wI s1 12 0 0 0)).bind fun s2 =>
  (f_X12_isMachine v1 s2).bind fun p3 =>
  if p3 = true then
   ((f_X12_isDay v2 s2).bind fun p5 =>
   if p5 = true then
    ((f_X12_waterOf v1 v2 true v3 v4 s2).bind fun p7 =>
    if p7 < 0 then
     ((f_X12_refuse 8 s2).bind fun p9 =>
     some (p9.1, p9.2))
    else
    (am_loop (fun s => f_X12_gap_63 v1 v3 p7 s s2) 1).bind fun w10 =>
    Sum.elim (fun t10_0 =>
     some (t10_0, s2)) (fun u10_0 =>
     (f_X12_refuse 8 s2).bind fun p11 =>
     some (p11.1, p11.2)) w10)
   else
   (f_X12_refuse 5 s2).bind fun p12 =>
   some (p12.1, p12.2))
  else
  (f_X12_refuse 2 s2).bind fun p13 =>
  some (p13.1, p13.2)
set_option maxRecDepth 100000 in
set_option maxHeartbeats 4000000 in
theorem q_X12_gap {X : am_X} (hX : am_ks X = am_ksM) {Q : Option Value → am_H → Prop} (v1 : Int32) (v2 : Int32) (v3 : Bool) (v4 : Int32) (σ : am_H) {o : Int32 × am_H} (hf : f_X12_gap v1 v2 v3 v4 σ = some o) (hk : Q (some (.int o.1)) o.2) : am_G X gm_X12_gap Q 0 [(0, .ref (am_ad X 12 0)), (1, .int v1), (2, .int v2), (3, .int (am_b v3)), (4, .int v4)] [] σ := by
  unfold f_X12_gap at hf
  refine g_aload_n (pc := 0) 0 rfl dX12_gap_0 rfl ?_
  refine g_iconst (pc := 1) (v := 0) dX12_gap_1 (by decide) ?_
  obtain ⟨s1, hs1, hf⟩ := am_bd hf
  refine g_setI (pc := 2) (in_12 hX (by omega)) fr_X12_122 dX12_gap_2 (Option.some.inj hs1) ?_
  refine g_aload_n (pc := 5) 0 rfl dX12_gap_5 rfl ?_
  refine g_iconst (pc := 6) (v := 0) dX12_gap_6 (by decide) ?_
  obtain ⟨s2, hs2, hf⟩ := am_bd hf
  refine g_setI (pc := 7) (in_12 hX (by omega)) fr_X12_125 dX12_gap_7 (Option.some.inj hs2) ?_
  refine g_iload_n (pc := 10) 1 rfl dX12_gap_10 rfl ?_
  obtain ⟨p3, hp3, hf⟩ := am_bd hf
  refine g_cS (pc := 11) (As := [.int v1]) (st := []) (st1 := [.int (am_b p3)]) mS_X12_isMachine ln_X12_280 rfl (Nat.le_of_ble_eq_true rfl) (Nat.le_of_ble_eq_true rfl) (k_X12_isMachine hX v1 s2 hp3) dX12_gap_11 rfl rfl ?_
  refine bt_ne (pc := 14) 23 dX12_gap_14 rfl (fun c4 => ?_) (fun c4 => ?_)
  · replace hf := am_ifT c4 hf
    refine g_iload_n (pc := 23) 2 rfl dX12_gap_23 rfl ?_
    obtain ⟨p5, hp5, hf⟩ := am_bd hf
    refine g_cS (pc := 24) (As := [.int v2]) (st := []) (st1 := [.int (am_b p5)]) mS_X12_isDay ln_X12_528 rfl (Nat.le_of_ble_eq_true rfl) (Nat.le_of_ble_eq_true rfl) (k_X12_isDay hX v2 s2 hp5) dX12_gap_24 rfl rfl ?_
    refine bt_ne (pc := 27) 36 dX12_gap_27 rfl (fun c6 => ?_) (fun c6 => ?_)
    · replace hf := am_ifT c6 hf
      refine g_aload_n (pc := 36) 0 rfl dX12_gap_36 rfl ?_
      refine g_iload_n (pc := 37) 1 rfl dX12_gap_37 rfl ?_
      refine g_iload_n (pc := 38) 2 rfl dX12_gap_38 rfl ?_
      refine g_iconst (pc := 39) (v := 1) dX12_gap_39 (by decide) ?_
      refine g_iload_n (pc := 40) 3 rfl dX12_gap_40 rfl ?_
      refine g_iload (pc := 41) 4 rfl dX12_gap_41 ?_
      obtain ⟨p7, hp7, hf⟩ := am_bd hf
      refine g_cV (pc := 43) (As := [.int v1, .int v2, .int (am_b true), .int (am_b v3), .int v4]) (st := []) (st1 := [.int p7]) (in_12 hX (by omega)) kk_12 mV_X12_waterOf ln_X12_538 rfl (Nat.le_of_ble_eq_true rfl) (Nat.le_of_ble_eq_true rfl) (k_X12_waterOf hX v1 v2 true v3 v4 s2 hp7) dX12_gap_43 rfl rfl ?_
      refine g_istore (pc := 46) [(5, .int p7), (0, .ref (am_ad X 12 0)), (1, .int v1), (2, .int v2), (3, .int (am_b v3)), (4, .int v4)] dX12_gap_46 (Nat.le_of_ble_eq_true rfl) rfl ?_
      refine g_iload (pc := 48) 0 rfl dX12_gap_48 ?_
      refine bz_ge (pc := 50) 60 dX12_gap_50 rfl (fun c8 => ?_) (fun c8 => ?_)
      · replace hf := am_ifT c8 hf
        refine g_aload_n (pc := 53) 1 rfl dX12_gap_53 rfl ?_
        refine g_bipush (pc := 54) (v := 8) dX12_gap_54 (by decide) ?_
        obtain ⟨p9, hp9, hf⟩ := am_bd hf
        refine g_cV (pc := 56) (As := [.int 8]) (st := []) (st1 := [.int p9.1]) (in_12 hX (by omega)) kk_12 mV_X12_refuse ln_X12_283 rfl (Nat.le_of_ble_eq_true rfl) (Nat.le_of_ble_eq_true rfl) (k_X12_refuse hX 8 s2 hp9) dX12_gap_56 rfl rfl ?_
        have ho := Option.some.inj hf
        subst ho
        exact g_ireturn (pc := 59) (st := []) rfl dX12_gap_59 hk
      replace hf := am_ifF c8 hf
      refine g_iconst (pc := 60) (v := 1) dX12_gap_60 (by decide) ?_
      refine g_istore (pc := 61) [(6, .int 1), (5, .int p7), (0, .ref (am_ad X 12 0)), (1, .int v1), (2, .int v2), (3, .int (am_b v3)), (4, .int v4)] dX12_gap_61 (Nat.le_of_ble_eq_true rfl) rfl ?_
      obtain ⟨w10, hw10, hf⟩ := am_bd hf
      refine am_sub [2, 3, 5, 1, 0] rfl (l_X12_gap_63 hX v1 v3 p7  s2 1 hw10 ?_ ?_)
      · intro t10_0 e
        subst e
        replace hf := am_elL hf
        refine g_iload (pc := 97) 0 rfl dX12_gap_97 ?_
        have ho := Option.some.inj hf
        subst ho
        exact g_ireturn (pc := 99) (st := []) rfl dX12_gap_99 hk
      · intro u10_0 e
        subst e
        replace hf := am_elR hf
        refine g_aload_n (pc := 106) 0 rfl dX12_gap_106 rfl ?_
        refine g_bipush (pc := 107) (v := 8) dX12_gap_107 (by decide) ?_
        obtain ⟨p11, hp11, hf⟩ := am_bd hf
        refine g_cV (pc := 109) (As := [.int 8]) (st := []) (st1 := [.int p11.1]) (in_12 hX (by omega)) kk_12 mV_X12_refuse ln_X12_283 rfl (Nat.le_of_ble_eq_true rfl) (Nat.le_of_ble_eq_true rfl) (k_X12_refuse hX 8 s2 hp11) dX12_gap_109 rfl rfl ?_
        have ho := Option.some.inj hf
        subst ho
        exact g_ireturn (pc := 112) (st := []) rfl dX12_gap_112 hk
    replace hf := am_ifF c6 hf
    refine g_aload_n (pc := 30) 0 rfl dX12_gap_30 rfl ?_
    refine g_iconst (pc := 31) (v := 5) dX12_gap_31 (by decide) ?_
    obtain ⟨p12, hp12, hf⟩ := am_bd hf
    refine g_cV (pc := 32) (As := [.int 5]) (st := []) (st1 := [.int p12.1]) (in_12 hX (by omega)) kk_12 mV_X12_refuse ln_X12_283 rfl (Nat.le_of_ble_eq_true rfl) (Nat.le_of_ble_eq_true rfl) (k_X12_refuse hX 5 s2 hp12) dX12_gap_32 rfl rfl ?_
    have ho := Option.some.inj hf
    subst ho
    exact g_ireturn (pc := 35) (st := []) rfl dX12_gap_35 hk
  replace hf := am_ifF c4 hf
  refine g_aload_n (pc := 17) 0 rfl dX12_gap_17 rfl ?_
  refine g_iconst (pc := 18) (v := 2) dX12_gap_18 (by decide) ?_
  obtain ⟨p13, hp13, hf⟩ := am_bd hf
  refine g_cV (pc := 19) (As := [.int 2]) (st := []) (st1 := [.int p13.1]) (in_12 hX (by omega)) kk_12 mV_X12_refuse ln_X12_283 rfl (Nat.le_of_ble_eq_true rfl) (Nat.le_of_ble_eq_true rfl) (k_X12_refuse hX 2 s2 hp13) dX12_gap_19 rfl rfl ?_
  have ho := Option.some.inj hf
  subst ho
  exact g_ireturn (pc := 22) (st := []) rfl dX12_gap_22 hk
theorem k_X12_gap {X : am_X} (hX : am_ks X = am_ksM) (v1 : Int32) (v2 : Int32) (v3 : Bool) (v4 : Int32) (σ : am_H) {o : Int32 × am_H} (hf : f_X12_gap v1 v2 v3 v4 σ = some o) : am_C X gm_X12_gap [.ref (am_ad X 12 0), .int v1, .int v2, .int (am_b v3), .int v4] σ (am_is (some (.int o.1)) o.2) :=
  am_ofG rfl (Nat.le_of_ble_eq_true rfl) rfl (q_X12_gap hX v1 v2 v3 v4 σ hf ⟨rfl, rfl⟩)
theorem dX12_wheels_0 : decode cX12_wheels 0 = .ok (.iconst 2, 1) := by decide +kernel
theorem dX12_wheels_1 : decode cX12_wheels 1 = .ok (.aload_n 0, 1) := by decide +kernel
theorem dX12_wheels_2 : decode cX12_wheels 2 = .ok (.iload_n 1, 1) := by decide +kernel
theorem dX12_wheels_3 : decode cX12_wheels 3 = .ok (.iload_n 2, 1) := by decide +kernel
theorem dX12_wheels_4 : decode cX12_wheels 4 = .ok (.iconst 4, 1) := by decide +kernel
theorem dX12_wheels_5 : decode cX12_wheels 5 = .ok (.invokevirtual 297, 3) := by decide +kernel
theorem dX12_wheels_8 : decode cX12_wheels 8 = .ok (.imul, 1) := by decide +kernel
theorem dX12_wheels_9 : decode cX12_wheels 9 = .ok (.ireturn, 1) := by decide +kernel
noncomputable def f_X12_wheels (v1 : Int32) (v2 : Int32) (σ : am_H) : Option (Int32) :=
  (f_X12_of v1 v2 4 σ).bind fun p1 =>
  some (2 * p1)
set_option maxRecDepth 100000 in
set_option maxHeartbeats 4000000 in
theorem q_X12_wheels {X : am_X} (hX : am_ks X = am_ksM) {Q : Option Value → am_H → Prop} (v1 : Int32) (v2 : Int32) (σ : am_H) {o : Int32} (hf : f_X12_wheels v1 v2 σ = some o) (hk : Q (some (.int o)) σ) : am_G X gm_X12_wheels Q 0 [(0, .ref (am_ad X 12 0)), (1, .int v1), (2, .int v2)] [] σ := by
  unfold f_X12_wheels at hf
  refine g_iconst (pc := 0) (v := 2) dX12_wheels_0 (by decide) ?_
  refine g_aload_n (pc := 1) 0 rfl dX12_wheels_1 rfl ?_
  refine g_iload_n (pc := 2) 1 rfl dX12_wheels_2 rfl ?_
  refine g_iload_n (pc := 3) 2 rfl dX12_wheels_3 rfl ?_
  refine g_iconst (pc := 4) (v := 4) dX12_wheels_4 (by decide) ?_
  obtain ⟨p1, hp1, hf⟩ := am_bd hf
  refine g_cV (pc := 5) (As := [.int v1, .int v2, .int 4]) (st := [.int 2]) (st1 := [.int p1, .int 2]) (in_12 hX (by omega)) kk_12 mV_X12_of ln_X12_297 rfl (Nat.le_of_ble_eq_true rfl) (Nat.le_of_ble_eq_true rfl) (k_X12_of hX v1 v2 4 σ hp1) dX12_wheels_5 rfl rfl ?_
  refine g_imul (pc := 8) dX12_wheels_8 ?_
  have ho := Option.some.inj hf
  subst ho
  exact g_ireturn (pc := 9) (st := []) rfl dX12_wheels_9 hk
theorem k_X12_wheels {X : am_X} (hX : am_ks X = am_ksM) (v1 : Int32) (v2 : Int32) (σ : am_H) {o : Int32} (hf : f_X12_wheels v1 v2 σ = some o) : am_C X gm_X12_wheels [.ref (am_ad X 12 0), .int v1, .int v2] σ (am_is (some (.int o)) σ) :=
  am_ofG rfl (Nat.le_of_ble_eq_true rfl) rfl (q_X12_wheels hX v1 v2 σ hf ⟨rfl, rfl⟩)
theorem dX12_wear_0 : decode cX12_wear 0 = .ok (.aload_n 0, 1) := by decide +kernel
theorem dX12_wear_1 : decode cX12_wear 1 = .ok (.iload_n 1, 1) := by decide +kernel
theorem dX12_wear_2 : decode cX12_wear 2 = .ok (.iload_n 2, 1) := by decide +kernel
theorem dX12_wear_3 : decode cX12_wear 3 = .ok (.iconst 5, 1) := by decide +kernel
theorem dX12_wear_4 : decode cX12_wear 4 = .ok (.invokevirtual 297, 3) := by decide +kernel
theorem dX12_wear_7 : decode cX12_wear 7 = .ok (.i2l, 1) := by decide +kernel
theorem dX12_wear_8 : decode cX12_wear 8 = .ok (.lstore 5, 2) := by decide +kernel
theorem dX12_wear_10 : decode cX12_wear 10 = .ok (.iload_n 3, 1) := by decide +kernel
theorem dX12_wear_11 : decode cX12_wear 11 = .ok (.iconst 2, 1) := by decide +kernel
theorem dX12_wear_12 : decode cX12_wear 12 = .ok (.if_icmp .ge 16, 3) := by decide +kernel
theorem dX12_wear_15 : decode cX12_wear 15 = .ok (.iload 4, 2) := by decide +kernel
theorem dX12_wear_17 : decode cX12_wear 17 = .ok (.i2l, 1) := by decide +kernel
theorem dX12_wear_18 : decode cX12_wear 18 = .ok (.lload 5, 2) := by decide +kernel
theorem dX12_wear_20 : decode cX12_wear 20 = .ok (.lmul, 1) := by decide +kernel
theorem dX12_wear_21 : decode cX12_wear 21 = .ok (.ldc2_w 316, 3) := by decide +kernel
theorem dX12_wear_24 : decode cX12_wear 24 = .ok (.ldiv, 1) := by decide +kernel
theorem dX12_wear_25 : decode cX12_wear 25 = .ok (.goto 33, 3) := by decide +kernel
theorem dX12_wear_28 : decode cX12_wear 28 = .ok (.iload 4, 2) := by decide +kernel
theorem dX12_wear_30 : decode cX12_wear 30 = .ok (.i2l, 1) := by decide +kernel
theorem dX12_wear_31 : decode cX12_wear 31 = .ok (.lload 5, 2) := by decide +kernel
theorem dX12_wear_33 : decode cX12_wear 33 = .ok (.lmul, 1) := by decide +kernel
theorem dX12_wear_34 : decode cX12_wear 34 = .ok (.aload_n 0, 1) := by decide +kernel
theorem dX12_wear_35 : decode cX12_wear 35 = .ok (.iload_n 1, 1) := by decide +kernel
theorem dX12_wear_36 : decode cX12_wear 36 = .ok (.iload_n 2, 1) := by decide +kernel
theorem dX12_wear_37 : decode cX12_wear 37 = .ok (.bipush 7, 2) := by decide +kernel
theorem dX12_wear_39 : decode cX12_wear 39 = .ok (.invokevirtual 297, 3) := by decide +kernel
theorem dX12_wear_42 : decode cX12_wear 42 = .ok (.i2l, 1) := by decide +kernel
theorem dX12_wear_43 : decode cX12_wear 43 = .ok (.lmul, 1) := by decide +kernel
theorem dX12_wear_44 : decode cX12_wear 44 = .ok (.ldc2_w 316, 3) := by decide +kernel
theorem dX12_wear_47 : decode cX12_wear 47 = .ok (.aload_n 0, 1) := by decide +kernel
theorem dX12_wear_48 : decode cX12_wear 48 = .ok (.iload_n 1, 1) := by decide +kernel
theorem dX12_wear_49 : decode cX12_wear 49 = .ok (.iload_n 2, 1) := by decide +kernel
theorem dX12_wear_50 : decode cX12_wear 50 = .ok (.bipush 6, 2) := by decide +kernel
theorem dX12_wear_52 : decode cX12_wear 52 = .ok (.invokevirtual 297, 3) := by decide +kernel
theorem dX12_wear_55 : decode cX12_wear 55 = .ok (.i2l, 1) := by decide +kernel
theorem dX12_wear_56 : decode cX12_wear 56 = .ok (.lmul, 1) := by decide +kernel
theorem dX12_wear_57 : decode cX12_wear 57 = .ok (.ldiv, 1) := by decide +kernel
theorem dX12_wear_58 : decode cX12_wear 58 = .ok (.lreturn, 1) := by decide +kernel
noncomputable def f_X12_wear (v1 : Int32) (v2 : Int32) (v3 : Int32) (v4 : Int32) (σ : am_H) : Option (Int64) :=
  (f_X12_of v1 v2 5 σ).bind fun p1 =>
  if v3 < 2 then
   (some (((Int32.toInt64 v4) * (Int32.toInt64 p1)) / 24))
  else
  (f_X12_of v1 v2 7 σ).bind fun p3 =>
  (f_X12_of v1 v2 6 σ).bind fun p4 =>
  if (24 * (Int32.toInt64 p4)) = 0 then none else
  some ((((Int32.toInt64 v4) * (Int32.toInt64 p1)) * (Int32.toInt64 p3)) / (24 * (Int32.toInt64 p4)))
set_option maxRecDepth 100000 in
set_option maxHeartbeats 4000000 in
theorem q_X12_wear {X : am_X} (hX : am_ks X = am_ksM) {Q : Option Value → am_H → Prop} (v1 : Int32) (v2 : Int32) (v3 : Int32) (v4 : Int32) (σ : am_H) {o : Int64} (hf : f_X12_wear v1 v2 v3 v4 σ = some o) (hk : Q (some (.long o)) σ) : am_G X gm_X12_wear Q 0 [(0, .ref (am_ad X 12 0)), (1, .int v1), (2, .int v2), (3, .int v3), (4, .int v4)] [] σ := by
  unfold f_X12_wear at hf
  refine g_aload_n (pc := 0) 0 rfl dX12_wear_0 rfl ?_
  refine g_iload_n (pc := 1) 1 rfl dX12_wear_1 rfl ?_
  refine g_iload_n (pc := 2) 2 rfl dX12_wear_2 rfl ?_
  refine g_iconst (pc := 3) (v := 5) dX12_wear_3 (by decide) ?_
  obtain ⟨p1, hp1, hf⟩ := am_bd hf
  refine g_cV (pc := 4) (As := [.int v1, .int v2, .int 5]) (st := []) (st1 := [.int p1]) (in_12 hX (by omega)) kk_12 mV_X12_of ln_X12_297 rfl (Nat.le_of_ble_eq_true rfl) (Nat.le_of_ble_eq_true rfl) (k_X12_of hX v1 v2 5 σ hp1) dX12_wear_4 rfl rfl ?_
  refine g_i2l (pc := 7) dX12_wear_7 ?_
  refine g_lstore (pc := 8) [(5, .long (Int32.toInt64 p1)), (0, .ref (am_ad X 12 0)), (1, .int v1), (2, .int v2), (3, .int v3), (4, .int v4)] dX12_wear_8 (Nat.le_of_ble_eq_true rfl) rfl ?_
  refine g_iload_n (pc := 10) 4 rfl dX12_wear_10 rfl ?_
  refine g_iconst (pc := 11) (v := 2) dX12_wear_11 (by decide) ?_
  refine bi_ge (pc := 12) 28 dX12_wear_12 rfl (fun c2 => ?_) (fun c2 => ?_)
  · replace hf := am_ifT c2 hf
    refine g_iload (pc := 15) 5 rfl dX12_wear_15 ?_
    refine g_i2l (pc := 17) dX12_wear_17 ?_
    refine g_lload (pc := 18) 0 rfl dX12_wear_18 ?_
    refine g_lmul (pc := 20) dX12_wear_20 ?_
    refine g_ldc2 (pc := 21) (v := 24) (tb_9 (List.mem_of_getElem? (i := 51) (by decide +kernel))) dX12_wear_21 ?_
    refine g_ldiv (pc := 24) dX12_wear_24 (by decide) ?_
    refine g_goto (pc := 25) 58 dX12_wear_25 rfl ?_
    have ho := Option.some.inj hf
    subst ho
    exact g_lreturn (pc := 58) (st := []) rfl dX12_wear_58 hk
  replace hf := am_ifF c2 hf
  refine g_iload (pc := 28) 5 rfl dX12_wear_28 ?_
  refine g_i2l (pc := 30) dX12_wear_30 ?_
  refine g_lload (pc := 31) 0 rfl dX12_wear_31 ?_
  refine g_lmul (pc := 33) dX12_wear_33 ?_
  refine g_aload_n (pc := 34) 1 rfl dX12_wear_34 rfl ?_
  refine g_iload_n (pc := 35) 2 rfl dX12_wear_35 rfl ?_
  refine g_iload_n (pc := 36) 3 rfl dX12_wear_36 rfl ?_
  refine g_bipush (pc := 37) (v := 7) dX12_wear_37 (by decide) ?_
  obtain ⟨p3, hp3, hf⟩ := am_bd hf
  refine g_cV (pc := 39) (As := [.int v1, .int v2, .int 7]) (st := [.long ((Int32.toInt64 v4) * (Int32.toInt64 p1))]) (st1 := [.int p3, .long ((Int32.toInt64 v4) * (Int32.toInt64 p1))]) (in_12 hX (by omega)) kk_12 mV_X12_of ln_X12_297 rfl (Nat.le_of_ble_eq_true rfl) (Nat.le_of_ble_eq_true rfl) (k_X12_of hX v1 v2 7 σ hp3) dX12_wear_39 rfl rfl ?_
  refine g_i2l (pc := 42) dX12_wear_42 ?_
  refine g_lmul (pc := 43) dX12_wear_43 ?_
  refine g_ldc2 (pc := 44) (v := 24) (tb_9 (List.mem_of_getElem? (i := 51) (by decide +kernel))) dX12_wear_44 ?_
  refine g_aload_n (pc := 47) 1 rfl dX12_wear_47 rfl ?_
  refine g_iload_n (pc := 48) 2 rfl dX12_wear_48 rfl ?_
  refine g_iload_n (pc := 49) 3 rfl dX12_wear_49 rfl ?_
  refine g_bipush (pc := 50) (v := 6) dX12_wear_50 (by decide) ?_
  obtain ⟨p4, hp4, hf⟩ := am_bd hf
  refine g_cV (pc := 52) (As := [.int v1, .int v2, .int 6]) (st := [.long 24, .long (((Int32.toInt64 v4) * (Int32.toInt64 p1)) * (Int32.toInt64 p3))]) (st1 := [.int p4, .long 24, .long (((Int32.toInt64 v4) * (Int32.toInt64 p1)) * (Int32.toInt64 p3))]) (in_12 hX (by omega)) kk_12 mV_X12_of ln_X12_297 rfl (Nat.le_of_ble_eq_true rfl) (Nat.le_of_ble_eq_true rfl) (k_X12_of hX v1 v2 6 σ hp4) dX12_wear_52 rfl rfl ?_
  refine g_i2l (pc := 55) dX12_wear_55 ?_
  refine g_lmul (pc := 56) dX12_wear_56 ?_
  by_cases z5 : (24 * (Int32.toInt64 p4)) = 0
  · exact absurd (am_ifT z5 hf) (by simp)
  replace hf := am_ifF z5 hf
  refine g_ldiv (pc := 57) dX12_wear_57 z5 ?_
  have ho := Option.some.inj hf
  subst ho
  exact g_lreturn (pc := 58) (st := []) rfl dX12_wear_58 hk
theorem k_X12_wear {X : am_X} (hX : am_ks X = am_ksM) (v1 : Int32) (v2 : Int32) (v3 : Int32) (v4 : Int32) (σ : am_H) {o : Int64} (hf : f_X12_wear v1 v2 v3 v4 σ = some o) : am_C X gm_X12_wear [.ref (am_ad X 12 0), .int v1, .int v2, .int v3, .int v4] σ (am_is (some (.long o)) σ) :=
  am_ofG rfl (Nat.le_of_ble_eq_true rfl) rfl (q_X12_wear hX v1 v2 v3 v4 σ hf ⟨rfl, rfl⟩)
theorem dX12_worn_0 : decode cX12_worn 0 = .ok (.aload_n 0, 1) := by decide +kernel
theorem dX12_worn_1 : decode cX12_worn 1 = .ok (.iconst 0, 1) := by decide +kernel
theorem dX12_worn_2 : decode cX12_worn 2 = .ok (.putfield 122, 3) := by decide +kernel
theorem dX12_worn_5 : decode cX12_worn 5 = .ok (.aload_n 0, 1) := by decide +kernel
theorem dX12_worn_6 : decode cX12_worn 6 = .ok (.iconst 0, 1) := by decide +kernel
theorem dX12_worn_7 : decode cX12_worn 7 = .ok (.putfield 125, 3) := by decide +kernel
theorem dX12_worn_10 : decode cX12_worn 10 = .ok (.aload_n 0, 1) := by decide +kernel
theorem dX12_worn_11 : decode cX12_worn 11 = .ok (.iload_n 1, 1) := by decide +kernel
theorem dX12_worn_12 : decode cX12_worn 12 = .ok (.iload_n 2, 1) := by decide +kernel
theorem dX12_worn_13 : decode cX12_worn 13 = .ok (.invokevirtual 300, 3) := by decide +kernel
theorem dX12_worn_16 : decode cX12_worn 16 = .ok (.ifCond .eq 15, 3) := by decide +kernel
theorem dX12_worn_19 : decode cX12_worn 19 = .ok (.iload_n 3, 1) := by decide +kernel
theorem dX12_worn_20 : decode cX12_worn 20 = .ok (.i2l, 1) := by decide +kernel
theorem dX12_worn_21 : decode cX12_worn 21 = .ok (.lconst 0, 1) := by decide +kernel
theorem dX12_worn_22 : decode cX12_worn 22 = .ok (.ldc2_w 390, 3) := by decide +kernel
theorem dX12_worn_25 : decode cX12_worn 25 = .ok (.invokestatic 239, 3) := by decide +kernel
theorem dX12_worn_28 : decode cX12_worn 28 = .ok (.ifCond .ne 9, 3) := by decide +kernel
theorem dX12_worn_31 : decode cX12_worn 31 = .ok (.aload_n 0, 1) := by decide +kernel
theorem dX12_worn_32 : decode cX12_worn 32 = .ok (.iconst 2, 1) := by decide +kernel
theorem dX12_worn_33 : decode cX12_worn 33 = .ok (.invokevirtual 283, 3) := by decide +kernel
theorem dX12_worn_36 : decode cX12_worn 36 = .ok (.ireturn, 1) := by decide +kernel
theorem dX12_worn_37 : decode cX12_worn 37 = .ok (.iload 4, 2) := by decide +kernel
theorem dX12_worn_39 : decode cX12_worn 39 = .ok (.invokestatic 331, 3) := by decide +kernel
theorem dX12_worn_42 : decode cX12_worn 42 = .ok (.ifCond .ne 9, 3) := by decide +kernel
theorem dX12_worn_45 : decode cX12_worn 45 = .ok (.aload_n 0, 1) := by decide +kernel
theorem dX12_worn_46 : decode cX12_worn 46 = .ok (.iconst 5, 1) := by decide +kernel
theorem dX12_worn_47 : decode cX12_worn 47 = .ok (.invokevirtual 283, 3) := by decide +kernel
theorem dX12_worn_50 : decode cX12_worn 50 = .ok (.ireturn, 1) := by decide +kernel
theorem dX12_worn_51 : decode cX12_worn 51 = .ok (.iload_n 3, 1) := by decide +kernel
theorem dX12_worn_52 : decode cX12_worn 52 = .ok (.aload_n 0, 1) := by decide +kernel
theorem dX12_worn_53 : decode cX12_worn 53 = .ok (.iload_n 1, 1) := by decide +kernel
theorem dX12_worn_54 : decode cX12_worn 54 = .ok (.iload_n 2, 1) := by decide +kernel
theorem dX12_worn_55 : decode cX12_worn 55 = .ok (.invokevirtual 542, 3) := by decide +kernel
theorem dX12_worn_58 : decode cX12_worn 58 = .ok (.if_icmp .ge 16, 3) := by decide +kernel
theorem dX12_worn_61 : decode cX12_worn 61 = .ok (.aload_n 0, 1) := by decide +kernel
theorem dX12_worn_62 : decode cX12_worn 62 = .ok (.iload_n 1, 1) := by decide +kernel
theorem dX12_worn_63 : decode cX12_worn 63 = .ok (.iload_n 2, 1) := by decide +kernel
theorem dX12_worn_64 : decode cX12_worn 64 = .ok (.iload_n 3, 1) := by decide +kernel
theorem dX12_worn_65 : decode cX12_worn 65 = .ok (.iload 4, 2) := by decide +kernel
theorem dX12_worn_67 : decode cX12_worn 67 = .ok (.invokevirtual 545, 3) := by decide +kernel
theorem dX12_worn_70 : decode cX12_worn 70 = .ok (.l2i, 1) := by decide +kernel
theorem dX12_worn_71 : decode cX12_worn 71 = .ok (.goto 9, 3) := by decide +kernel
theorem dX12_worn_74 : decode cX12_worn 74 = .ok (.aload_n 0, 1) := by decide +kernel
theorem dX12_worn_75 : decode cX12_worn 75 = .ok (.bipush 8, 2) := by decide +kernel
theorem dX12_worn_77 : decode cX12_worn 77 = .ok (.invokevirtual 283, 3) := by decide +kernel
theorem dX12_worn_80 : decode cX12_worn 80 = .ok (.ireturn, 1) := by decide +kernel
noncomputable def f_X12_worn_31 (σ : am_H) : Option (Int32 × am_H) :=
  (f_X12_refuse 2 σ).bind fun p1 =>
  some (p1.1, p1.2)
set_option maxRecDepth 100000 in
set_option maxHeartbeats 4000000 in
theorem q_X12_worn_31 {X : am_X} (hX : am_ks X = am_ksM) {Q : Option Value → am_H → Prop} (σ : am_H) {o : Int32 × am_H} (hf : f_X12_worn_31 σ = some o) (hk : Q (some (.int o.1)) o.2) : am_G X gm_X12_worn Q 31 [(0, .ref (am_ad X 12 0))] [] σ := by
  unfold f_X12_worn_31 at hf
  refine g_aload_n (pc := 31) 0 rfl dX12_worn_31 rfl ?_
  refine g_iconst (pc := 32) (v := 2) dX12_worn_32 (by decide) ?_
  obtain ⟨p1, hp1, hf⟩ := am_bd hf
  refine g_cV (pc := 33) (As := [.int 2]) (st := []) (st1 := [.int p1.1]) (in_12 hX (by omega)) kk_12 mV_X12_refuse ln_X12_283 rfl (Nat.le_of_ble_eq_true rfl) (Nat.le_of_ble_eq_true rfl) (k_X12_refuse hX 2 σ hp1) dX12_worn_33 rfl rfl ?_
  have ho := Option.some.inj hf
  subst ho
  exact g_ireturn (pc := 36) (st := []) rfl dX12_worn_36 hk
noncomputable def f_X12_worn (v1 : Int32) (v2 : Int32) (v3 : Int32) (v4 : Int32) (σ : am_H) : Option (Int32 × am_H) :=
  (some (am_wI σ 12 0 1 0)).bind fun s1 =>
  (some (am_wI s1 12 0 0 0)).bind fun s2 =>
  (f_X12_isWaveOf v1 v2 s2).bind fun p3 =>
  if p3 = true then
   ((f_X12_isIn (Int32.toInt64 v3) 0 3 s2).bind fun p5 =>
   if p5 = true then
    ((f_X12_isHour v4 s2).bind fun p7 =>
    if p7 = true then
     ((f_X12_wheels v1 v2 s2).bind fun p9 =>
     if v3 < p9 then
      ((f_X12_wear v1 v2 v3 v4 s2).bind fun p11 =>
      some ((Int64.toInt32 p11), s2))
     else
     (f_X12_refuse 8 s2).bind fun p12 =>
     some (p12.1, p12.2))
    else
    (f_X12_refuse 5 s2).bind fun p13 =>
    some (p13.1, p13.2))
   else
   f_X12_worn_31 s2)
  else
  f_X12_worn_31 s2
set_option maxRecDepth 100000 in
set_option maxHeartbeats 4000000 in
theorem q_X12_worn {X : am_X} (hX : am_ks X = am_ksM) {Q : Option Value → am_H → Prop} (v1 : Int32) (v2 : Int32) (v3 : Int32) (v4 : Int32) (σ : am_H) {o : Int32 × am_H} (hf : f_X12_worn v1 v2 v3 v4 σ = some o) (hk : Q (some (.int o.1)) o.2) : am_G X gm_X12_worn Q 0 [(0, .ref (am_ad X 12 0)), (1, .int v1), (2, .int v2), (3, .int v3), (4, .int v4)] [] σ := by
  unfold f_X12_worn at hf
  refine g_aload_n (pc := 0) 0 rfl dX12_worn_0 rfl ?_
  refine g_iconst (pc := 1) (v := 0) dX12_worn_1 (by decide) ?_
  obtain ⟨s1, hs1, hf⟩ := am_bd hf
  refine g_setI (pc := 2) (in_12 hX (by omega)) fr_X12_122 dX12_worn_2 (Option.some.inj hs1) ?_
  refine g_aload_n (pc := 5) 0 rfl dX12_worn_5 rfl ?_
  refine g_iconst (pc := 6) (v := 0) dX12_worn_6 (by decide) ?_
  obtain ⟨s2, hs2, hf⟩ := am_bd hf
  refine g_setI (pc := 7) (in_12 hX (by omega)) fr_X12_125 dX12_worn_7 (Option.some.inj hs2) ?_
  refine g_aload_n (pc := 10) 0 rfl dX12_worn_10 rfl ?_
  refine g_iload_n (pc := 11) 1 rfl dX12_worn_11 rfl ?_
  refine g_iload_n (pc := 12) 2 rfl dX12_worn_12 rfl ?_
  obtain ⟨p3, hp3, hf⟩ := am_bd hf
  refine g_cV (pc := 13) (As := [.int v1, .int v2]) (st := []) (st1 := [.int (am_b p3)]) (in_12 hX (by omega)) kk_12 mV_X12_isWaveOf ln_X12_300 rfl (Nat.le_of_ble_eq_true rfl) (Nat.le_of_ble_eq_true rfl) (k_X12_isWaveOf hX v1 v2 s2 hp3) dX12_worn_13 rfl rfl ?_
  refine bt_eq (pc := 16) 31 dX12_worn_16 rfl (fun c4 => ?_) (fun c4 => ?_)
  · replace hf := am_ifT c4 hf
    refine g_iload_n (pc := 19) 3 rfl dX12_worn_19 rfl ?_
    refine g_i2l (pc := 20) dX12_worn_20 ?_
    refine g_lconst (pc := 21) (v := 0) dX12_worn_21 (by decide) ?_
    refine g_ldc2 (pc := 22) (v := 3) (tb_9 (List.mem_of_getElem? (i := 119) (by decide +kernel))) dX12_worn_22 ?_
    obtain ⟨p5, hp5, hf⟩ := am_bd hf
    refine g_cS (pc := 25) (As := [.long (Int32.toInt64 v3), .long 0, .long 3]) (st := []) (st1 := [.int (am_b p5)]) mS_X12_isIn ln_X12_239 rfl (Nat.le_of_ble_eq_true rfl) (Nat.le_of_ble_eq_true rfl) (k_X12_isIn hX (Int32.toInt64 v3) 0 3 s2 hp5) dX12_worn_25 rfl rfl ?_
    refine bt_ne (pc := 28) 37 dX12_worn_28 rfl (fun c6 => ?_) (fun c6 => ?_)
    · replace hf := am_ifT c6 hf
      refine g_iload (pc := 37) 4 rfl dX12_worn_37 ?_
      obtain ⟨p7, hp7, hf⟩ := am_bd hf
      refine g_cS (pc := 39) (As := [.int v4]) (st := []) (st1 := [.int (am_b p7)]) mS_X12_isHour ln_X12_331 rfl (Nat.le_of_ble_eq_true rfl) (Nat.le_of_ble_eq_true rfl) (k_X12_isHour hX v4 s2 hp7) dX12_worn_39 rfl rfl ?_
      refine bt_ne (pc := 42) 51 dX12_worn_42 rfl (fun c8 => ?_) (fun c8 => ?_)
      · replace hf := am_ifT c8 hf
        refine g_iload_n (pc := 51) 3 rfl dX12_worn_51 rfl ?_
        refine g_aload_n (pc := 52) 0 rfl dX12_worn_52 rfl ?_
        refine g_iload_n (pc := 53) 1 rfl dX12_worn_53 rfl ?_
        refine g_iload_n (pc := 54) 2 rfl dX12_worn_54 rfl ?_
        obtain ⟨p9, hp9, hf⟩ := am_bd hf
        refine g_cV (pc := 55) (As := [.int v1, .int v2]) (st := [.int v3]) (st1 := [.int p9, .int v3]) (in_12 hX (by omega)) kk_12 mV_X12_wheels ln_X12_542 rfl (Nat.le_of_ble_eq_true rfl) (Nat.le_of_ble_eq_true rfl) (k_X12_wheels hX v1 v2 s2 hp9) dX12_worn_55 rfl rfl ?_
        refine bi_ge (pc := 58) 74 dX12_worn_58 rfl (fun c10 => ?_) (fun c10 => ?_)
        · replace hf := am_ifT c10 hf
          refine g_aload_n (pc := 61) 0 rfl dX12_worn_61 rfl ?_
          refine g_iload_n (pc := 62) 1 rfl dX12_worn_62 rfl ?_
          refine g_iload_n (pc := 63) 2 rfl dX12_worn_63 rfl ?_
          refine g_iload_n (pc := 64) 3 rfl dX12_worn_64 rfl ?_
          refine g_iload (pc := 65) 4 rfl dX12_worn_65 ?_
          obtain ⟨p11, hp11, hf⟩ := am_bd hf
          refine g_cV (pc := 67) (As := [.int v1, .int v2, .int v3, .int v4]) (st := []) (st1 := [.long p11]) (in_12 hX (by omega)) kk_12 mV_X12_wear ln_X12_545 rfl (Nat.le_of_ble_eq_true rfl) (Nat.le_of_ble_eq_true rfl) (k_X12_wear hX v1 v2 v3 v4 s2 hp11) dX12_worn_67 rfl rfl ?_
          refine g_l2i (pc := 70) dX12_worn_70 ?_
          refine g_goto (pc := 71) 80 dX12_worn_71 rfl ?_
          have ho := Option.some.inj hf
          subst ho
          exact g_ireturn (pc := 80) (st := []) rfl dX12_worn_80 hk
        replace hf := am_ifF c10 hf
        refine g_aload_n (pc := 74) 0 rfl dX12_worn_74 rfl ?_
        refine g_bipush (pc := 75) (v := 8) dX12_worn_75 (by decide) ?_
        obtain ⟨p12, hp12, hf⟩ := am_bd hf
        refine g_cV (pc := 77) (As := [.int 8]) (st := []) (st1 := [.int p12.1]) (in_12 hX (by omega)) kk_12 mV_X12_refuse ln_X12_283 rfl (Nat.le_of_ble_eq_true rfl) (Nat.le_of_ble_eq_true rfl) (k_X12_refuse hX 8 s2 hp12) dX12_worn_77 rfl rfl ?_
        have ho := Option.some.inj hf
        subst ho
        exact g_ireturn (pc := 80) (st := []) rfl dX12_worn_80 hk
      replace hf := am_ifF c8 hf
      refine g_aload_n (pc := 45) 0 rfl dX12_worn_45 rfl ?_
      refine g_iconst (pc := 46) (v := 5) dX12_worn_46 (by decide) ?_
      obtain ⟨p13, hp13, hf⟩ := am_bd hf
      refine g_cV (pc := 47) (As := [.int 5]) (st := []) (st1 := [.int p13.1]) (in_12 hX (by omega)) kk_12 mV_X12_refuse ln_X12_283 rfl (Nat.le_of_ble_eq_true rfl) (Nat.le_of_ble_eq_true rfl) (k_X12_refuse hX 5 s2 hp13) dX12_worn_47 rfl rfl ?_
      have ho := Option.some.inj hf
      subst ho
      exact g_ireturn (pc := 50) (st := []) rfl dX12_worn_50 hk
    replace hf := am_ifF c6 hf
    exact am_sub [0] rfl (q_X12_worn_31 hX s2 hf hk)
  replace hf := am_ifF c4 hf
  exact am_sub [0] rfl (q_X12_worn_31 hX s2 hf hk)
theorem k_X12_worn {X : am_X} (hX : am_ks X = am_ksM) (v1 : Int32) (v2 : Int32) (v3 : Int32) (v4 : Int32) (σ : am_H) {o : Int32 × am_H} (hf : f_X12_worn v1 v2 v3 v4 σ = some o) : am_C X gm_X12_worn [.ref (am_ad X 12 0), .int v1, .int v2, .int v3, .int v4] σ (am_is (some (.int o.1)) o.2) :=
  am_ofG rfl (Nat.le_of_ble_eq_true rfl) rfl (q_X12_worn hX v1 v2 v3 v4 σ hf ⟨rfl, rfl⟩)
