theorem dX12_isMachine_0 : decode cX12_isMachine 0 = .ok (.iload_n 0, 1) := by decide +kernel
theorem dX12_isMachine_1 : decode cX12_isMachine 1 = .ok (.ifCond .eq 8, 3) := by decide +kernel
theorem dX12_isMachine_4 : decode cX12_isMachine 4 = .ok (.iload_n 0, 1) := by decide +kernel
theorem dX12_isMachine_5 : decode cX12_isMachine 5 = .ok (.iconst 1, 1) := by decide +kernel
theorem dX12_isMachine_6 : decode cX12_isMachine 6 = .ok (.if_icmp .ne 7, 3) := by decide +kernel
theorem dX12_isMachine_9 : decode cX12_isMachine 9 = .ok (.iconst 1, 1) := by decide +kernel
theorem dX12_isMachine_10 : decode cX12_isMachine 10 = .ok (.goto 4, 3) := by decide +kernel
theorem dX12_isMachine_13 : decode cX12_isMachine 13 = .ok (.iconst 0, 1) := by decide +kernel
theorem dX12_isMachine_14 : decode cX12_isMachine 14 = .ok (.ireturn, 1) := by decide +kernel
noncomputable def f_X12_isMachine (v0 : Int32) (σ : am_H) : Option (Bool) :=
  if v0 = 0 then
   (some true)
  else
  if v0 = 1 then
   (some true)
  else
  some false
set_option maxRecDepth 100000 in
set_option maxHeartbeats 4000000 in
theorem q_X12_isMachine {X : am_X} (hX : am_ks X = am_ksM) {Q : Option Value → am_H → Prop} (v0 : Int32) (σ : am_H) {o : Bool} (hf : f_X12_isMachine v0 σ = some o) (hk : Q (some (.int (am_b o))) σ) : am_G X gm_X12_isMachine Q 0 [(0, .int v0)] [] σ := by
  unfold f_X12_isMachine at hf
  refine g_iload_n (pc := 0) 0 rfl dX12_isMachine_0 rfl ?_
  refine bz_eq (pc := 1) 9 dX12_isMachine_1 rfl (fun c1 => ?_) (fun c1 => ?_)
  · replace hf := am_ifT c1 hf
    refine g_iconst (pc := 9) (v := 1) dX12_isMachine_9 (by decide) ?_
    refine g_goto (pc := 10) 14 dX12_isMachine_10 rfl ?_
    have ho := Option.some.inj hf
    subst ho
    exact g_zreturn (pc := 14) (st := []) (x := true) rfl dX12_isMachine_14 hk
  replace hf := am_ifF c1 hf
  refine g_iload_n (pc := 4) 0 rfl dX12_isMachine_4 rfl ?_
  refine g_iconst (pc := 5) (v := 1) dX12_isMachine_5 (by decide) ?_
  refine bi_ne (pc := 6) 13 dX12_isMachine_6 rfl (fun c2 => ?_) (fun c2 => ?_)
  · replace hf := am_ifT c2 hf
    refine g_iconst (pc := 9) (v := 1) dX12_isMachine_9 (by decide) ?_
    refine g_goto (pc := 10) 14 dX12_isMachine_10 rfl ?_
    have ho := Option.some.inj hf
    subst ho
    exact g_zreturn (pc := 14) (st := []) (x := true) rfl dX12_isMachine_14 hk
  replace hf := am_ifF c2 hf
  refine g_iconst (pc := 13) (v := 0) dX12_isMachine_13 (by decide) ?_
  have ho := Option.some.inj hf
  subst ho
  exact g_zreturn (pc := 14) (st := []) (x := false) rfl dX12_isMachine_14 hk
theorem k_X12_isMachine {X : am_X} (hX : am_ks X = am_ksM) (v0 : Int32) (σ : am_H) {o : Bool} (hf : f_X12_isMachine v0 σ = some o) : am_C X gm_X12_isMachine [.int v0] σ (am_is (some (.int (am_b o))) σ) :=
  am_ofG rfl (Nat.le_of_ble_eq_true rfl) rfl (q_X12_isMachine hX v0 σ hf ⟨rfl, rfl⟩)
theorem dX12_machine_0 : decode cX12_machine 0 = .ok (.aload_n 0, 1) := by decide +kernel
theorem dX12_machine_1 : decode cX12_machine 1 = .ok (.iconst 0, 1) := by decide +kernel
theorem dX12_machine_2 : decode cX12_machine 2 = .ok (.putfield 122, 3) := by decide +kernel
theorem dX12_machine_5 : decode cX12_machine 5 = .ok (.aload_n 0, 1) := by decide +kernel
theorem dX12_machine_6 : decode cX12_machine 6 = .ok (.iconst 0, 1) := by decide +kernel
theorem dX12_machine_7 : decode cX12_machine 7 = .ok (.putfield 125, 3) := by decide +kernel
theorem dX12_machine_10 : decode cX12_machine 10 = .ok (.iload_n 1, 1) := by decide +kernel
theorem dX12_machine_11 : decode cX12_machine 11 = .ok (.invokestatic 280, 3) := by decide +kernel
theorem dX12_machine_14 : decode cX12_machine 14 = .ok (.ifCond .ne 9, 3) := by decide +kernel
theorem dX12_machine_17 : decode cX12_machine 17 = .ok (.aload_n 0, 1) := by decide +kernel
theorem dX12_machine_18 : decode cX12_machine 18 = .ok (.iconst 2, 1) := by decide +kernel
theorem dX12_machine_19 : decode cX12_machine 19 = .ok (.invokevirtual 283, 3) := by decide +kernel
theorem dX12_machine_22 : decode cX12_machine 22 = .ok (.ireturn, 1) := by decide +kernel
theorem dX12_machine_23 : decode cX12_machine 23 = .ok (.iload_n 2, 1) := by decide +kernel
theorem dX12_machine_24 : decode cX12_machine 24 = .ok (.ifCond .lt 11, 3) := by decide +kernel
theorem dX12_machine_27 : decode cX12_machine 27 = .ok (.iload_n 2, 1) := by decide +kernel
theorem dX12_machine_28 : decode cX12_machine 28 = .ok (.aload_n 0, 1) := by decide +kernel
theorem dX12_machine_29 : decode cX12_machine 29 = .ok (.getfield 274, 3) := by decide +kernel
theorem dX12_machine_32 : decode cX12_machine 32 = .ok (.if_icmp .le 9, 3) := by decide +kernel
theorem dX12_machine_35 : decode cX12_machine 35 = .ok (.aload_n 0, 1) := by decide +kernel
theorem dX12_machine_36 : decode cX12_machine 36 = .ok (.iconst 5, 1) := by decide +kernel
theorem dX12_machine_37 : decode cX12_machine 37 = .ok (.invokevirtual 283, 3) := by decide +kernel
theorem dX12_machine_40 : decode cX12_machine 40 = .ok (.ireturn, 1) := by decide +kernel
theorem dX12_machine_41 : decode cX12_machine 41 = .ok (.aload_n 0, 1) := by decide +kernel
theorem dX12_machine_42 : decode cX12_machine 42 = .ok (.iload_n 2, 1) := by decide +kernel
theorem dX12_machine_43 : decode cX12_machine 43 = .ok (.putfield 155, 3) := by decide +kernel
theorem dX12_machine_46 : decode cX12_machine 46 = .ok (.aload_n 0, 1) := by decide +kernel
theorem dX12_machine_47 : decode cX12_machine 47 = .ok (.iconst 0, 1) := by decide +kernel
theorem dX12_machine_48 : decode cX12_machine 48 = .ok (.putfield 274, 3) := by decide +kernel
theorem dX12_machine_51 : decode cX12_machine 51 = .ok (.aload_n 0, 1) := by decide +kernel
theorem dX12_machine_52 : decode cX12_machine 52 = .ok (.iconst 0, 1) := by decide +kernel
theorem dX12_machine_53 : decode cX12_machine 53 = .ok (.putfield 158, 3) := by decide +kernel
theorem dX12_machine_56 : decode cX12_machine 56 = .ok (.aload_n 0, 1) := by decide +kernel
theorem dX12_machine_57 : decode cX12_machine 57 = .ok (.iconst 0, 1) := by decide +kernel
theorem dX12_machine_58 : decode cX12_machine 58 = .ok (.putfield 223, 3) := by decide +kernel
theorem dX12_machine_61 : decode cX12_machine 61 = .ok (.aload_n 0, 1) := by decide +kernel
theorem dX12_machine_62 : decode cX12_machine 62 = .ok (.getfield 35, 3) := by decide +kernel
theorem dX12_machine_65 : decode cX12_machine 65 = .ok (.iconst 2, 1) := by decide +kernel
theorem dX12_machine_66 : decode cX12_machine 66 = .ok (.iconst 0, 1) := by decide +kernel
theorem dX12_machine_67 : decode cX12_machine 67 = .ok (.iastore, 1) := by decide +kernel
theorem dX12_machine_68 : decode cX12_machine 68 = .ok (.aload_n 0, 1) := by decide +kernel
theorem dX12_machine_69 : decode cX12_machine 69 = .ok (.getfield 38, 3) := by decide +kernel
theorem dX12_machine_72 : decode cX12_machine 72 = .ok (.iconst 2, 1) := by decide +kernel
theorem dX12_machine_73 : decode cX12_machine 73 = .ok (.iconst 0, 1) := by decide +kernel
theorem dX12_machine_74 : decode cX12_machine 74 = .ok (.iastore, 1) := by decide +kernel
theorem dX12_machine_75 : decode cX12_machine 75 = .ok (.aload_n 0, 1) := by decide +kernel
theorem dX12_machine_76 : decode cX12_machine 76 = .ok (.getfield 41, 3) := by decide +kernel
theorem dX12_machine_79 : decode cX12_machine 79 = .ok (.iconst 2, 1) := by decide +kernel
theorem dX12_machine_80 : decode cX12_machine 80 = .ok (.iconst 0, 1) := by decide +kernel
theorem dX12_machine_81 : decode cX12_machine 81 = .ok (.iastore, 1) := by decide +kernel
theorem dX12_machine_82 : decode cX12_machine 82 = .ok (.aload_n 0, 1) := by decide +kernel
theorem dX12_machine_83 : decode cX12_machine 83 = .ok (.getfield 44, 3) := by decide +kernel
theorem dX12_machine_86 : decode cX12_machine 86 = .ok (.iconst 2, 1) := by decide +kernel
theorem dX12_machine_87 : decode cX12_machine 87 = .ok (.iconst 0, 1) := by decide +kernel
theorem dX12_machine_88 : decode cX12_machine 88 = .ok (.iastore, 1) := by decide +kernel
theorem dX12_machine_89 : decode cX12_machine 89 = .ok (.aload_n 0, 1) := by decide +kernel
theorem dX12_machine_90 : decode cX12_machine 90 = .ok (.iconst 0, 1) := by decide +kernel
theorem dX12_machine_91 : decode cX12_machine 91 = .ok (.putfield 267, 3) := by decide +kernel
theorem dX12_machine_94 : decode cX12_machine 94 = .ok (.aload_n 0, 1) := by decide +kernel
theorem dX12_machine_95 : decode cX12_machine 95 = .ok (.iconst 0, 1) := by decide +kernel
theorem dX12_machine_96 : decode cX12_machine 96 = .ok (.putfield 271, 3) := by decide +kernel
theorem dX12_machine_99 : decode cX12_machine 99 = .ok (.aload_n 0, 1) := by decide +kernel
theorem dX12_machine_100 : decode cX12_machine 100 = .ok (.invokevirtual 233, 3) := by decide +kernel
theorem dX12_machine_103 : decode cX12_machine 103 = .ok (.aload_n 0, 1) := by decide +kernel
theorem dX12_machine_104 : decode cX12_machine 104 = .ok (.getfield 223, 3) := by decide +kernel
theorem dX12_machine_107 : decode cX12_machine 107 = .ok (.ifCond .ne 45, 3) := by decide +kernel
theorem dX12_machine_110 : decode cX12_machine 110 = .ok (.aload_n 0, 1) := by decide +kernel
theorem dX12_machine_111 : decode cX12_machine 111 = .ok (.getfield 167, 3) := by decide +kernel
theorem dX12_machine_114 : decode cX12_machine 114 = .ok (.ifCond .eq 38, 3) := by decide +kernel
theorem dX12_machine_117 : decode cX12_machine 117 = .ok (.aload_n 0, 1) := by decide +kernel
theorem dX12_machine_118 : decode cX12_machine 118 = .ok (.invokevirtual 201, 3) := by decide +kernel
theorem dX12_machine_121 : decode cX12_machine 121 = .ok (.ifCond .eq 10, 3) := by decide +kernel
theorem dX12_machine_124 : decode cX12_machine 124 = .ok (.aload_n 0, 1) := by decide +kernel
theorem dX12_machine_125 : decode cX12_machine 125 = .ok (.invokevirtual 286, 3) := by decide +kernel
theorem dX12_machine_128 : decode cX12_machine 128 = .ok (.goto (-25), 3) := by decide +kernel
theorem dX12_machine_131 : decode cX12_machine 131 = .ok (.aload_n 0, 1) := by decide +kernel
theorem dX12_machine_132 : decode cX12_machine 132 = .ok (.invokevirtual 211, 3) := by decide +kernel
theorem dX12_machine_135 : decode cX12_machine 135 = .ok (.ifCond .eq 10, 3) := by decide +kernel
theorem dX12_machine_138 : decode cX12_machine 138 = .ok (.aload_n 0, 1) := by decide +kernel
theorem dX12_machine_139 : decode cX12_machine 139 = .ok (.invokevirtual 289, 3) := by decide +kernel
theorem dX12_machine_142 : decode cX12_machine 142 = .ok (.goto (-39), 3) := by decide +kernel
theorem dX12_machine_145 : decode cX12_machine 145 = .ok (.aload_n 0, 1) := by decide +kernel
theorem dX12_machine_146 : decode cX12_machine 146 = .ok (.invokevirtual 292, 3) := by decide +kernel
theorem dX12_machine_149 : decode cX12_machine 149 = .ok (.goto (-46), 3) := by decide +kernel
theorem dX12_machine_152 : decode cX12_machine 152 = .ok (.aload_n 0, 1) := by decide +kernel
theorem dX12_machine_153 : decode cX12_machine 153 = .ok (.aload_n 0, 1) := by decide +kernel
theorem dX12_machine_154 : decode cX12_machine 154 = .ok (.getfield 223, 3) := by decide +kernel
theorem dX12_machine_157 : decode cX12_machine 157 = .ok (.putfield 28, 3) := by decide +kernel
theorem dX12_machine_160 : decode cX12_machine 160 = .ok (.aload_n 0, 1) := by decide +kernel
theorem dX12_machine_161 : decode cX12_machine 161 = .ok (.aload_n 0, 1) := by decide +kernel
theorem dX12_machine_162 : decode cX12_machine 162 = .ok (.getfield 223, 3) := by decide +kernel
theorem dX12_machine_165 : decode cX12_machine 165 = .ok (.ifCond .ne 7, 3) := by decide +kernel
theorem dX12_machine_168 : decode cX12_machine 168 = .ok (.iconst (-1), 1) := by decide +kernel
theorem dX12_machine_169 : decode cX12_machine 169 = .ok (.goto 7, 3) := by decide +kernel
theorem dX12_machine_172 : decode cX12_machine 172 = .ok (.aload_n 0, 1) := by decide +kernel
theorem dX12_machine_173 : decode cX12_machine 173 = .ok (.getfield 226, 3) := by decide +kernel
theorem dX12_machine_176 : decode cX12_machine 176 = .ok (.putfield 32, 3) := by decide +kernel
theorem dX12_machine_179 : decode cX12_machine 179 = .ok (.aload_n 0, 1) := by decide +kernel
theorem dX12_machine_180 : decode cX12_machine 180 = .ok (.getfield 223, 3) := by decide +kernel
theorem dX12_machine_183 : decode cX12_machine 183 = .ok (.ifCond .le 10, 3) := by decide +kernel
theorem dX12_machine_186 : decode cX12_machine 186 = .ok (.aload_n 0, 1) := by decide +kernel
theorem dX12_machine_187 : decode cX12_machine 187 = .ok (.bipush 10, 2) := by decide +kernel
theorem dX12_machine_189 : decode cX12_machine 189 = .ok (.invokevirtual 283, 3) := by decide +kernel
theorem dX12_machine_192 : decode cX12_machine 192 = .ok (.ireturn, 1) := by decide +kernel
theorem dX12_machine_193 : decode cX12_machine 193 = .ok (.aload_n 0, 1) := by decide +kernel
theorem dX12_machine_194 : decode cX12_machine 194 = .ok (.getfield 35, 3) := by decide +kernel
theorem dX12_machine_197 : decode cX12_machine 197 = .ok (.iload_n 1, 1) := by decide +kernel
theorem dX12_machine_198 : decode cX12_machine 198 = .ok (.aload_n 0, 1) := by decide +kernel
theorem dX12_machine_199 : decode cX12_machine 199 = .ok (.getfield 35, 3) := by decide +kernel
theorem dX12_machine_202 : decode cX12_machine 202 = .ok (.iconst 2, 1) := by decide +kernel
theorem dX12_machine_203 : decode cX12_machine 203 = .ok (.iaload, 1) := by decide +kernel
theorem dX12_machine_204 : decode cX12_machine 204 = .ok (.iastore, 1) := by decide +kernel
theorem dX12_machine_205 : decode cX12_machine 205 = .ok (.aload_n 0, 1) := by decide +kernel
theorem dX12_machine_206 : decode cX12_machine 206 = .ok (.getfield 38, 3) := by decide +kernel
theorem dX12_machine_209 : decode cX12_machine 209 = .ok (.iload_n 1, 1) := by decide +kernel
theorem dX12_machine_210 : decode cX12_machine 210 = .ok (.aload_n 0, 1) := by decide +kernel
theorem dX12_machine_211 : decode cX12_machine 211 = .ok (.getfield 38, 3) := by decide +kernel
theorem dX12_machine_214 : decode cX12_machine 214 = .ok (.iconst 2, 1) := by decide +kernel
theorem dX12_machine_215 : decode cX12_machine 215 = .ok (.iaload, 1) := by decide +kernel
theorem dX12_machine_216 : decode cX12_machine 216 = .ok (.iastore, 1) := by decide +kernel
theorem dX12_machine_217 : decode cX12_machine 217 = .ok (.aload_n 0, 1) := by decide +kernel
theorem dX12_machine_218 : decode cX12_machine 218 = .ok (.getfield 41, 3) := by decide +kernel
theorem dX12_machine_221 : decode cX12_machine 221 = .ok (.iload_n 1, 1) := by decide +kernel
theorem dX12_machine_222 : decode cX12_machine 222 = .ok (.aload_n 0, 1) := by decide +kernel
theorem dX12_machine_223 : decode cX12_machine 223 = .ok (.getfield 41, 3) := by decide +kernel
theorem dX12_machine_226 : decode cX12_machine 226 = .ok (.iconst 2, 1) := by decide +kernel
theorem dX12_machine_227 : decode cX12_machine 227 = .ok (.iaload, 1) := by decide +kernel
theorem dX12_machine_228 : decode cX12_machine 228 = .ok (.iastore, 1) := by decide +kernel
theorem dX12_machine_229 : decode cX12_machine 229 = .ok (.aload_n 0, 1) := by decide +kernel
theorem dX12_machine_230 : decode cX12_machine 230 = .ok (.getfield 44, 3) := by decide +kernel
theorem dX12_machine_233 : decode cX12_machine 233 = .ok (.iload_n 1, 1) := by decide +kernel
theorem dX12_machine_234 : decode cX12_machine 234 = .ok (.aload_n 0, 1) := by decide +kernel
theorem dX12_machine_235 : decode cX12_machine 235 = .ok (.getfield 44, 3) := by decide +kernel
theorem dX12_machine_238 : decode cX12_machine 238 = .ok (.iconst 2, 1) := by decide +kernel
theorem dX12_machine_239 : decode cX12_machine 239 = .ok (.iaload, 1) := by decide +kernel
theorem dX12_machine_240 : decode cX12_machine 240 = .ok (.iastore, 1) := by decide +kernel
theorem dX12_machine_241 : decode cX12_machine 241 = .ok (.iconst 0, 1) := by decide +kernel
theorem dX12_machine_242 : decode cX12_machine 242 = .ok (.istore_n 3, 1) := by decide +kernel
theorem dX12_machine_243 : decode cX12_machine 243 = .ok (.iload_n 3, 1) := by decide +kernel
theorem dX12_machine_244 : decode cX12_machine 244 = .ok (.bipush 54, 2) := by decide +kernel
theorem dX12_machine_246 : decode cX12_machine 246 = .ok (.if_icmp .ge 29, 3) := by decide +kernel
theorem dX12_machine_249 : decode cX12_machine 249 = .ok (.aload_n 0, 1) := by decide +kernel
theorem dX12_machine_250 : decode cX12_machine 250 = .ok (.getfield 47, 3) := by decide +kernel
theorem dX12_machine_253 : decode cX12_machine 253 = .ok (.bipush 54, 2) := by decide +kernel
theorem dX12_machine_255 : decode cX12_machine 255 = .ok (.iload_n 1, 1) := by decide +kernel
theorem dX12_machine_256 : decode cX12_machine 256 = .ok (.imul, 1) := by decide +kernel
theorem dX12_machine_257 : decode cX12_machine 257 = .ok (.iload_n 3, 1) := by decide +kernel
theorem dX12_machine_258 : decode cX12_machine 258 = .ok (.iadd, 1) := by decide +kernel
theorem dX12_machine_259 : decode cX12_machine 259 = .ok (.aload_n 0, 1) := by decide +kernel
theorem dX12_machine_260 : decode cX12_machine 260 = .ok (.getfield 47, 3) := by decide +kernel
theorem dX12_machine_263 : decode cX12_machine 263 = .ok (.bipush 108, 2) := by decide +kernel
theorem dX12_machine_265 : decode cX12_machine 265 = .ok (.iload_n 3, 1) := by decide +kernel
theorem dX12_machine_266 : decode cX12_machine 266 = .ok (.iadd, 1) := by decide +kernel
theorem dX12_machine_267 : decode cX12_machine 267 = .ok (.iaload, 1) := by decide +kernel
theorem dX12_machine_268 : decode cX12_machine 268 = .ok (.iastore, 1) := by decide +kernel
theorem dX12_machine_269 : decode cX12_machine 269 = .ok (.iinc 3 1, 3) := by decide +kernel
theorem dX12_machine_272 : decode cX12_machine 272 = .ok (.goto (-29), 3) := by decide +kernel
theorem dX12_machine_275 : decode cX12_machine 275 = .ok (.iconst 0, 1) := by decide +kernel
theorem dX12_machine_276 : decode cX12_machine 276 = .ok (.istore_n 3, 1) := by decide +kernel
theorem dX12_machine_277 : decode cX12_machine 277 = .ok (.iload_n 3, 1) := by decide +kernel
theorem dX12_machine_278 : decode cX12_machine 278 = .ok (.bipush 20, 2) := by decide +kernel
theorem dX12_machine_280 : decode cX12_machine 280 = .ok (.if_icmp .ge 29, 3) := by decide +kernel
theorem dX12_machine_283 : decode cX12_machine 283 = .ok (.aload_n 0, 1) := by decide +kernel
theorem dX12_machine_284 : decode cX12_machine 284 = .ok (.getfield 50, 3) := by decide +kernel
theorem dX12_machine_287 : decode cX12_machine 287 = .ok (.bipush 20, 2) := by decide +kernel
theorem dX12_machine_289 : decode cX12_machine 289 = .ok (.iload_n 1, 1) := by decide +kernel
theorem dX12_machine_290 : decode cX12_machine 290 = .ok (.imul, 1) := by decide +kernel
theorem dX12_machine_291 : decode cX12_machine 291 = .ok (.iload_n 3, 1) := by decide +kernel
theorem dX12_machine_292 : decode cX12_machine 292 = .ok (.iadd, 1) := by decide +kernel
theorem dX12_machine_293 : decode cX12_machine 293 = .ok (.aload_n 0, 1) := by decide +kernel
theorem dX12_machine_294 : decode cX12_machine 294 = .ok (.getfield 50, 3) := by decide +kernel
theorem dX12_machine_297 : decode cX12_machine 297 = .ok (.bipush 40, 2) := by decide +kernel
theorem dX12_machine_299 : decode cX12_machine 299 = .ok (.iload_n 3, 1) := by decide +kernel
theorem dX12_machine_300 : decode cX12_machine 300 = .ok (.iadd, 1) := by decide +kernel
theorem dX12_machine_301 : decode cX12_machine 301 = .ok (.iaload, 1) := by decide +kernel
theorem dX12_machine_302 : decode cX12_machine 302 = .ok (.iastore, 1) := by decide +kernel
theorem dX12_machine_303 : decode cX12_machine 303 = .ok (.iinc 3 1, 3) := by decide +kernel
theorem dX12_machine_306 : decode cX12_machine 306 = .ok (.goto (-29), 3) := by decide +kernel
theorem dX12_machine_309 : decode cX12_machine 309 = .ok (.aload_n 0, 1) := by decide +kernel
theorem dX12_machine_310 : decode cX12_machine 310 = .ok (.getfield 35, 3) := by decide +kernel
theorem dX12_machine_313 : decode cX12_machine 313 = .ok (.iload_n 1, 1) := by decide +kernel
theorem dX12_machine_314 : decode cX12_machine 314 = .ok (.iaload, 1) := by decide +kernel
theorem dX12_machine_315 : decode cX12_machine 315 = .ok (.ireturn, 1) := by decide +kernel
noncomputable def f_X12_machine_35 (σ : am_H) : Option (Int32 × am_H) :=
  (f_X12_refuse 5 σ).bind fun p1 =>
  some (p1.1, p1.2)
set_option maxRecDepth 100000 in
set_option maxHeartbeats 4000000 in
theorem q_X12_machine_35 {X : am_X} (hX : am_ks X = am_ksM) {Q : Option Value → am_H → Prop} (σ : am_H) {o : Int32 × am_H} (hf : f_X12_machine_35 σ = some o) (hk : Q (some (.int o.1)) o.2) : am_G X gm_X12_machine Q 35 [(0, .ref (am_ad X 12 0))] [] σ := by
  unfold f_X12_machine_35 at hf
  refine g_aload_n (pc := 35) 0 rfl dX12_machine_35 rfl ?_
  refine g_iconst (pc := 36) (v := 5) dX12_machine_36 (by decide) ?_
  obtain ⟨p1, hp1, hf⟩ := am_bd hf
  refine g_cV (pc := 37) (As := [.int 5]) (st := []) (st1 := [.int p1.1]) (in_12 hX (by omega)) kk_12 mV_X12_refuse ln_X12_283 rfl (Nat.le_of_ble_eq_true rfl) (Nat.le_of_ble_eq_true rfl) (k_X12_refuse hX 5 σ hp1) dX12_machine_37 rfl rfl ?_
  have ho := Option.some.inj hf
  subst ho
  exact g_ireturn (pc := 40) (st := []) rfl dX12_machine_40 hk
noncomputable def f_X12_machine_103 (v1 : Int32) (σ : am_H) : Option ((am_H) ⊕ (am_H)) :=
  if (σ.1 12 0 12) = 0 then
   (if (σ.1 12 0 14) = 0 then
    (some (.inr σ))
   else
   (f_X12_isWave σ).bind fun p3 =>
   if p3 = true then
    ((f_X12_readWave σ).bind fun p5 =>
    some (.inl p5))
   else
   (f_X12_isBox σ).bind fun p6 =>
   if p6 = true then
    ((f_X12_readBox σ).bind fun p8 =>
    some (.inl p8))
   else
   (f_X12_readRest σ).bind fun p9 =>
   some (.inl p9))
  else
  some (.inr σ)
set_option maxRecDepth 100000 in
set_option maxHeartbeats 4000000 in
theorem q_X12_machine_103 {X : am_X} (hX : am_ks X = am_ksM) {Q : Option Value → am_H → Prop} (v1 : Int32) (σ : am_H) {o : (am_H) ⊕ (am_H)} (hf : f_X12_machine_103 v1 σ = some o) (hk0 : ∀ s, o = .inl s → am_G X gm_X12_machine Q 103 [(0, .ref (am_ad X 12 0)), (1, .int v1)] [] s) (hk1 : ∀ t, o = .inr t → am_G X gm_X12_machine Q 152 [(0, .ref (am_ad X 12 0)), (1, .int v1)] [] t) : am_G X gm_X12_machine Q 103 [(0, .ref (am_ad X 12 0)), (1, .int v1)] [] σ := by
  unfold f_X12_machine_103 at hf
  refine g_aload_n (pc := 103) 0 rfl dX12_machine_103 rfl ?_
  refine g_getI (pc := 104) (in_12 hX (by omega)) fr_X12_223 dX12_machine_104 ?_
  refine bz_ne (pc := 107) 152 dX12_machine_107 rfl (fun c1 => ?_) (fun c1 => ?_)
  · replace hf := am_ifT c1 hf
    refine g_aload_n (pc := 110) 0 rfl dX12_machine_110 rfl ?_
    refine g_getI (pc := 111) (in_12 hX (by omega)) fr_X12_167 dX12_machine_111 ?_
    refine bz_eq (pc := 114) 152 dX12_machine_114 rfl (fun c2 => ?_) (fun c2 => ?_)
    · replace hf := am_ifT c2 hf
      have hz := hk1 _ (Option.some.inj hf).symm
      exact hz
    replace hf := am_ifF c2 hf
    refine g_aload_n (pc := 117) 0 rfl dX12_machine_117 rfl ?_
    obtain ⟨p3, hp3, hf⟩ := am_bd hf
    refine g_cV (pc := 118) (As := []) (st := []) (st1 := [.int (am_b p3)]) (in_12 hX (by omega)) kk_12 mV_X12_isWave ln_X12_201 rfl (Nat.le_of_ble_eq_true rfl) (Nat.le_of_ble_eq_true rfl) (k_X12_isWave hX σ hp3) dX12_machine_118 rfl rfl ?_
    refine bt_eq (pc := 121) 131 dX12_machine_121 rfl (fun c4 => ?_) (fun c4 => ?_)
    · replace hf := am_ifT c4 hf
      refine g_aload_n (pc := 124) 0 rfl dX12_machine_124 rfl ?_
      obtain ⟨p5, hp5, hf⟩ := am_bd hf
      refine g_cV (pc := 125) (As := []) (st := []) (st1 := []) (in_12 hX (by omega)) kk_12 mV_X12_readWave ln_X12_286 rfl (Nat.le_of_ble_eq_true rfl) (Nat.le_of_ble_eq_true rfl) (k_X12_readWave hX σ hp5) dX12_machine_125 rfl rfl ?_
      refine g_goto (pc := 128) 103 dX12_machine_128 rfl ?_
      have hz := hk0 _ (Option.some.inj hf).symm
      exact hz
    replace hf := am_ifF c4 hf
    refine g_aload_n (pc := 131) 0 rfl dX12_machine_131 rfl ?_
    obtain ⟨p6, hp6, hf⟩ := am_bd hf
    refine g_cV (pc := 132) (As := []) (st := []) (st1 := [.int (am_b p6)]) (in_12 hX (by omega)) kk_12 mV_X12_isBox ln_X12_211 rfl (Nat.le_of_ble_eq_true rfl) (Nat.le_of_ble_eq_true rfl) (k_X12_isBox hX σ hp6) dX12_machine_132 rfl rfl ?_
    refine bt_eq (pc := 135) 145 dX12_machine_135 rfl (fun c7 => ?_) (fun c7 => ?_)
    · replace hf := am_ifT c7 hf
      refine g_aload_n (pc := 138) 0 rfl dX12_machine_138 rfl ?_
      obtain ⟨p8, hp8, hf⟩ := am_bd hf
      refine g_cV (pc := 139) (As := []) (st := []) (st1 := []) (in_12 hX (by omega)) kk_12 mV_X12_readBox ln_X12_289 rfl (Nat.le_of_ble_eq_true rfl) (Nat.le_of_ble_eq_true rfl) (k_X12_readBox hX σ hp8) dX12_machine_139 rfl rfl ?_
      refine g_goto (pc := 142) 103 dX12_machine_142 rfl ?_
      have hz := hk0 _ (Option.some.inj hf).symm
      exact hz
    replace hf := am_ifF c7 hf
    refine g_aload_n (pc := 145) 0 rfl dX12_machine_145 rfl ?_
    obtain ⟨p9, hp9, hf⟩ := am_bd hf
    refine g_cV (pc := 146) (As := []) (st := []) (st1 := []) (in_12 hX (by omega)) kk_12 mV_X12_readRest ln_X12_292 rfl (Nat.le_of_ble_eq_true rfl) (Nat.le_of_ble_eq_true rfl) (k_X12_readRest hX σ hp9) dX12_machine_146 rfl rfl ?_
    refine g_goto (pc := 149) 103 dX12_machine_149 rfl ?_
    have hz := hk0 _ (Option.some.inj hf).symm
    exact hz
  replace hf := am_ifF c1 hf
  have hz := hk1 _ (Option.some.inj hf).symm
  exact hz
set_option maxRecDepth 100000 in
set_option maxHeartbeats 4000000 in
theorem l_X12_machine_103 {X : am_X} (hX : am_ks X = am_ksM) {Q : Option Value → am_H → Prop} (v1 : Int32) (σ : am_H) (s : am_H) {o : am_H} (hf : am_loop (fun s => f_X12_machine_103 v1 s) s = some o) (hk1 : ∀ t, o = t → am_G X gm_X12_machine Q 152 [(0, .ref (am_ad X 12 0)), (1, .int v1)] [] t) : am_G X gm_X12_machine Q 103 [(0, .ref (am_ad X 12 0)), (1, .int v1)] [] s := by
  refine am_loop_ind (P := fun s => am_G X gm_X12_machine Q 103 [(0, .ref (am_ad X 12 0)), (1, .int v1)] [] s) (K := fun r => r = o) ?_ hf rfl
  intro s o1 hb hi hr
  exact q_X12_machine_103 hX v1  s hb hi (fun t e => hk1 t (hr _ e).symm)
noncomputable def f_X12_machine_243 (v1 : Int32) (v3 : Int32) (σ : am_H) : Option ((Int32 × am_H) ⊕ (am_H)) :=
  if v3 < 54 then
   ((am_ix 162 (108 + v3)).bind fun j2 =>
   (am_ix 162 ((54 * v1) + v3)).bind fun j3 =>
   (some (am_wI σ 1324 0 j3 (σ.1 1324 0 j2))).bind fun s4 =>
   some (.inl ((v3 + 1), s4)))
  else
  some (.inr σ)
set_option maxRecDepth 100000 in
set_option maxHeartbeats 4000000 in
theorem q_X12_machine_243 {X : am_X} (hX : am_ks X = am_ksM) {Q : Option Value → am_H → Prop} (v1 : Int32) (v3 : Int32) (σ : am_H) {o : (Int32 × am_H) ⊕ (am_H)} (hf : f_X12_machine_243 v1 v3 σ = some o) (hk0 : ∀ s, o = .inl s → am_G X gm_X12_machine Q 243 [(0, .ref (am_ad X 12 0)), (1, .int v1), (3, .int s.1)] [] s.2) (hk1 : ∀ t, o = .inr t → am_G X gm_X12_machine Q 275 [(0, .ref (am_ad X 12 0)), (1, .int v1)] [] t) : am_G X gm_X12_machine Q 243 [(0, .ref (am_ad X 12 0)), (1, .int v1), (3, .int v3)] [] σ := by
  unfold f_X12_machine_243 at hf
  refine g_iload_n (pc := 243) 2 rfl dX12_machine_243 rfl ?_
  refine g_bipush (pc := 244) (v := 54) dX12_machine_244 (by decide) ?_
  refine bi_ge (pc := 246) 275 dX12_machine_246 rfl (fun c1 => ?_) (fun c1 => ?_)
  · replace hf := am_ifT c1 hf
    refine g_aload_n (pc := 249) 0 rfl dX12_machine_249 rfl ?_
    refine g_getC (pc := 250) (e := 0) (in_12 hX (by omega)) fr_X12_47 dX12_machine_250 rfl ?_
    refine g_bipush (pc := 253) (v := 54) dX12_machine_253 (by decide) ?_
    refine g_iload_n (pc := 255) 1 rfl dX12_machine_255 rfl ?_
    refine g_imul (pc := 256) dX12_machine_256 ?_
    refine g_iload_n (pc := 257) 2 rfl dX12_machine_257 rfl ?_
    refine g_iadd (pc := 258) dX12_machine_258 ?_
    refine g_aload_n (pc := 259) 0 rfl dX12_machine_259 rfl ?_
    refine g_getC (pc := 260) (e := 0) (in_12 hX (by omega)) fr_X12_47 dX12_machine_260 rfl ?_
    refine g_bipush (pc := 263) (v := 108) dX12_machine_263 (by decide) ?_
    refine g_iload_n (pc := 265) 2 rfl dX12_machine_265 rfl ?_
    refine g_iadd (pc := 266) dX12_machine_266 ?_
    obtain ⟨j2, hj2, hf⟩ := am_bd hf
    have gj2 := am_ix_lt hj2
    refine g_aI (pc := 267) (in_1324 hX (by omega)) ak_1324 hj2 dX12_machine_267 ?_
    obtain ⟨j3, hj3, hf⟩ := am_bd hf
    have gj3 := am_ix_lt hj3
    obtain ⟨s4, hs4, hf⟩ := am_bd hf
    refine g_sI (pc := 268) (in_1324 hX (by omega)) ak_1324 hj3 dX12_machine_268 (Option.some.inj hs4) ?_
    refine g_iinc (pc := 269) (v := (v3 + 1)) 2 [(3, .int (v3 + 1)), (0, .ref (am_ad X 12 0)), (1, .int v1)] dX12_machine_269 rfl rfl (Nat.le_of_ble_eq_true rfl) rfl ?_
    refine g_goto (pc := 272) 243 dX12_machine_272 rfl ?_
    have hz := hk0 _ (Option.some.inj hf).symm
    exact am_sub [1, 2, 0] rfl hz
  replace hf := am_ifF c1 hf
  have hz := hk1 _ (Option.some.inj hf).symm
  exact am_sub [0, 1] rfl hz
set_option maxRecDepth 100000 in
set_option maxHeartbeats 4000000 in
theorem l_X12_machine_243 {X : am_X} (hX : am_ks X = am_ksM) {Q : Option Value → am_H → Prop} (v1 : Int32) (σ : am_H) (s : Int32 × am_H) {o : am_H} (hf : am_loop (fun s => f_X12_machine_243 v1 s.1 s.2) s = some o) (hk1 : ∀ t, o = t → am_G X gm_X12_machine Q 275 [(0, .ref (am_ad X 12 0)), (1, .int v1)] [] t) : am_G X gm_X12_machine Q 243 [(0, .ref (am_ad X 12 0)), (1, .int v1), (3, .int s.1)] [] s.2 := by
  refine am_loop_ind (P := fun s => am_G X gm_X12_machine Q 243 [(0, .ref (am_ad X 12 0)), (1, .int v1), (3, .int s.1)] [] s.2) (K := fun r => r = o) ?_ hf rfl
  intro s o1 hb hi hr
  exact q_X12_machine_243 hX v1 s.1  s.2 hb hi (fun t e => hk1 t (hr _ e).symm)
noncomputable def f_X12_machine_277 (v1 : Int32) (v3 : Int32) (σ : am_H) : Option ((Int32 × am_H) ⊕ (am_H)) :=
  if v3 < 20 then
   ((am_ix 60 (40 + v3)).bind fun j2 =>
   (am_ix 60 ((20 * v1) + v3)).bind fun j3 =>
   (some (am_wI σ 1325 0 j3 (σ.1 1325 0 j2))).bind fun s4 =>
   some (.inl ((v3 + 1), s4)))
  else
  some (.inr σ)
set_option maxRecDepth 100000 in
set_option maxHeartbeats 4000000 in
theorem q_X12_machine_277 {X : am_X} (hX : am_ks X = am_ksM) {Q : Option Value → am_H → Prop} (v1 : Int32) (v3 : Int32) (σ : am_H) {o : (Int32 × am_H) ⊕ (am_H)} (hf : f_X12_machine_277 v1 v3 σ = some o) (hk0 : ∀ s, o = .inl s → am_G X gm_X12_machine Q 277 [(0, .ref (am_ad X 12 0)), (1, .int v1), (3, .int s.1)] [] s.2) (hk1 : ∀ t, o = .inr t → am_G X gm_X12_machine Q 309 [(0, .ref (am_ad X 12 0)), (1, .int v1)] [] t) : am_G X gm_X12_machine Q 277 [(0, .ref (am_ad X 12 0)), (1, .int v1), (3, .int v3)] [] σ := by
  unfold f_X12_machine_277 at hf
  refine g_iload_n (pc := 277) 2 rfl dX12_machine_277 rfl ?_
  refine g_bipush (pc := 278) (v := 20) dX12_machine_278 (by decide) ?_
  refine bi_ge (pc := 280) 309 dX12_machine_280 rfl (fun c1 => ?_) (fun c1 => ?_)
  · replace hf := am_ifT c1 hf
    refine g_aload_n (pc := 283) 0 rfl dX12_machine_283 rfl ?_
    refine g_getC (pc := 284) (e := 0) (in_12 hX (by omega)) fr_X12_50 dX12_machine_284 rfl ?_
    refine g_bipush (pc := 287) (v := 20) dX12_machine_287 (by decide) ?_
    refine g_iload_n (pc := 289) 1 rfl dX12_machine_289 rfl ?_
    refine g_imul (pc := 290) dX12_machine_290 ?_
    refine g_iload_n (pc := 291) 2 rfl dX12_machine_291 rfl ?_
    refine g_iadd (pc := 292) dX12_machine_292 ?_
    refine g_aload_n (pc := 293) 0 rfl dX12_machine_293 rfl ?_
    refine g_getC (pc := 294) (e := 0) (in_12 hX (by omega)) fr_X12_50 dX12_machine_294 rfl ?_
    refine g_bipush (pc := 297) (v := 40) dX12_machine_297 (by decide) ?_
    refine g_iload_n (pc := 299) 2 rfl dX12_machine_299 rfl ?_
    refine g_iadd (pc := 300) dX12_machine_300 ?_
    obtain ⟨j2, hj2, hf⟩ := am_bd hf
    have gj2 := am_ix_lt hj2
    refine g_aI (pc := 301) (in_1325 hX (by omega)) ak_1325 hj2 dX12_machine_301 ?_
    obtain ⟨j3, hj3, hf⟩ := am_bd hf
    have gj3 := am_ix_lt hj3
    obtain ⟨s4, hs4, hf⟩ := am_bd hf
    refine g_sI (pc := 302) (in_1325 hX (by omega)) ak_1325 hj3 dX12_machine_302 (Option.some.inj hs4) ?_
    refine g_iinc (pc := 303) (v := (v3 + 1)) 2 [(3, .int (v3 + 1)), (0, .ref (am_ad X 12 0)), (1, .int v1)] dX12_machine_303 rfl rfl (Nat.le_of_ble_eq_true rfl) rfl ?_
    refine g_goto (pc := 306) 277 dX12_machine_306 rfl ?_
    have hz := hk0 _ (Option.some.inj hf).symm
    exact am_sub [1, 2, 0] rfl hz
  replace hf := am_ifF c1 hf
  have hz := hk1 _ (Option.some.inj hf).symm
  exact am_sub [0, 1] rfl hz
set_option maxRecDepth 100000 in
set_option maxHeartbeats 4000000 in
theorem l_X12_machine_277 {X : am_X} (hX : am_ks X = am_ksM) {Q : Option Value → am_H → Prop} (v1 : Int32) (σ : am_H) (s : Int32 × am_H) {o : am_H} (hf : am_loop (fun s => f_X12_machine_277 v1 s.1 s.2) s = some o) (hk1 : ∀ t, o = t → am_G X gm_X12_machine Q 309 [(0, .ref (am_ad X 12 0)), (1, .int v1)] [] t) : am_G X gm_X12_machine Q 277 [(0, .ref (am_ad X 12 0)), (1, .int v1), (3, .int s.1)] [] s.2 := by
  refine am_loop_ind (P := fun s => am_G X gm_X12_machine Q 277 [(0, .ref (am_ad X 12 0)), (1, .int v1), (3, .int s.1)] [] s.2) (K := fun r => r = o) ?_ hf rfl
  intro s o1 hb hi hr
  exact q_X12_machine_277 hX v1 s.1  s.2 hb hi (fun t e => hk1 t (hr _ e).symm)
noncomputable def f_X12_machine_176 (v1 : Int32) (k1 : Int32) (σ : am_H) : Option (Int32 × am_H) :=
  (some (am_wI σ 12 0 11 k1)).bind fun s1 =>
  if 0 < (s1.1 12 0 12) then
   ((f_X12_refuse 10 s1).bind fun p3 =>
   some (p3.1, p3.2))
  else
  (am_ix 3 2).bind fun j4 =>
  (am_ix 3 v1).bind fun j5 =>
  (some (am_wI s1 1320 0 j5 (s1.1 1320 0 j4))).bind fun s6 =>
  (am_ix 3 2).bind fun j7 =>
  (am_ix 3 v1).bind fun j8 =>
  (some (am_wI s6 1321 0 j8 (s6.1 1321 0 j7))).bind fun s9 =>
  (am_ix 3 2).bind fun j10 =>
  (am_ix 3 v1).bind fun j11 =>
  (some (am_wI s9 1322 0 j11 (s9.1 1322 0 j10))).bind fun s12 =>
  (am_ix 3 2).bind fun j13 =>
  (am_ix 3 v1).bind fun j14 =>
  (some (am_wI s12 1323 0 j14 (s12.1 1323 0 j13))).bind fun s15 =>
  (am_loop (fun s => f_X12_machine_243 v1 s.1 s.2) (0, s15)).bind fun w16 =>
  (am_loop (fun s => f_X12_machine_277 v1 s.1 s.2) (0, w16)).bind fun w17 =>
  (am_ix 3 v1).bind fun j18 =>
  some ((w17.1 1320 0 j18), w17)
set_option maxRecDepth 100000 in
set_option maxHeartbeats 4000000 in
theorem q_X12_machine_176 {X : am_X} (hX : am_ks X = am_ksM) {Q : Option Value → am_H → Prop} (v1 : Int32) (k1 : Int32) (σ : am_H) {o : Int32 × am_H} (hf : f_X12_machine_176 v1 k1 σ = some o) (hk : Q (some (.int o.1)) o.2) : am_G X gm_X12_machine Q 176 [(0, .ref (am_ad X 12 0)), (1, .int v1)] [.int k1, .ref (am_ad X 12 0)] σ := by
  unfold f_X12_machine_176 at hf
  obtain ⟨s1, hs1, hf⟩ := am_bd hf
  refine g_setI (pc := 176) (in_12 hX (by omega)) fr_X12_32 dX12_machine_176 (Option.some.inj hs1) ?_
  refine g_aload_n (pc := 179) 0 rfl dX12_machine_179 rfl ?_
  refine g_getI (pc := 180) (in_12 hX (by omega)) fr_X12_223 dX12_machine_180 ?_
  refine bz_le (pc := 183) 193 dX12_machine_183 rfl (fun c2 => ?_) (fun c2 => ?_)
  · replace hf := am_ifT c2 hf
    refine g_aload_n (pc := 186) 0 rfl dX12_machine_186 rfl ?_
    refine g_bipush (pc := 187) (v := 10) dX12_machine_187 (by decide) ?_
    obtain ⟨p3, hp3, hf⟩ := am_bd hf
    refine g_cV (pc := 189) (As := [.int 10]) (st := []) (st1 := [.int p3.1]) (in_12 hX (by omega)) kk_12 mV_X12_refuse ln_X12_283 rfl (Nat.le_of_ble_eq_true rfl) (Nat.le_of_ble_eq_true rfl) (k_X12_refuse hX 10 s1 hp3) dX12_machine_189 rfl rfl ?_
    have ho := Option.some.inj hf
    subst ho
    exact g_ireturn (pc := 192) (st := []) rfl dX12_machine_192 hk
  replace hf := am_ifF c2 hf
  refine g_aload_n (pc := 193) 0 rfl dX12_machine_193 rfl ?_
  refine g_getC (pc := 194) (e := 0) (in_12 hX (by omega)) fr_X12_35 dX12_machine_194 rfl ?_
  refine g_iload_n (pc := 197) 1 rfl dX12_machine_197 rfl ?_
  refine g_aload_n (pc := 198) 0 rfl dX12_machine_198 rfl ?_
  refine g_getC (pc := 199) (e := 0) (in_12 hX (by omega)) fr_X12_35 dX12_machine_199 rfl ?_
  refine g_iconst (pc := 202) (v := 2) dX12_machine_202 (by decide) ?_
  obtain ⟨j4, hj4, hf⟩ := am_bd hf
  have gj4 := am_ix_lt hj4
  refine g_aI (pc := 203) (in_1320 hX (by omega)) ak_1320 hj4 dX12_machine_203 ?_
  obtain ⟨j5, hj5, hf⟩ := am_bd hf
  have gj5 := am_ix_lt hj5
  obtain ⟨s6, hs6, hf⟩ := am_bd hf
  refine g_sI (pc := 204) (in_1320 hX (by omega)) ak_1320 hj5 dX12_machine_204 (Option.some.inj hs6) ?_
  refine g_aload_n (pc := 205) 0 rfl dX12_machine_205 rfl ?_
  refine g_getC (pc := 206) (e := 0) (in_12 hX (by omega)) fr_X12_38 dX12_machine_206 rfl ?_
  refine g_iload_n (pc := 209) 1 rfl dX12_machine_209 rfl ?_
  refine g_aload_n (pc := 210) 0 rfl dX12_machine_210 rfl ?_
  refine g_getC (pc := 211) (e := 0) (in_12 hX (by omega)) fr_X12_38 dX12_machine_211 rfl ?_
  refine g_iconst (pc := 214) (v := 2) dX12_machine_214 (by decide) ?_
  obtain ⟨j7, hj7, hf⟩ := am_bd hf
  have gj7 := am_ix_lt hj7
  refine g_aI (pc := 215) (in_1321 hX (by omega)) ak_1321 hj7 dX12_machine_215 ?_
  obtain ⟨j8, hj8, hf⟩ := am_bd hf
  have gj8 := am_ix_lt hj8
  obtain ⟨s9, hs9, hf⟩ := am_bd hf
  refine g_sI (pc := 216) (in_1321 hX (by omega)) ak_1321 hj8 dX12_machine_216 (Option.some.inj hs9) ?_
  refine g_aload_n (pc := 217) 0 rfl dX12_machine_217 rfl ?_
  refine g_getC (pc := 218) (e := 0) (in_12 hX (by omega)) fr_X12_41 dX12_machine_218 rfl ?_
  refine g_iload_n (pc := 221) 1 rfl dX12_machine_221 rfl ?_
  refine g_aload_n (pc := 222) 0 rfl dX12_machine_222 rfl ?_
  refine g_getC (pc := 223) (e := 0) (in_12 hX (by omega)) fr_X12_41 dX12_machine_223 rfl ?_
  refine g_iconst (pc := 226) (v := 2) dX12_machine_226 (by decide) ?_
  obtain ⟨j10, hj10, hf⟩ := am_bd hf
  have gj10 := am_ix_lt hj10
  refine g_aI (pc := 227) (in_1322 hX (by omega)) ak_1322 hj10 dX12_machine_227 ?_
  obtain ⟨j11, hj11, hf⟩ := am_bd hf
  have gj11 := am_ix_lt hj11
  obtain ⟨s12, hs12, hf⟩ := am_bd hf
  refine g_sI (pc := 228) (in_1322 hX (by omega)) ak_1322 hj11 dX12_machine_228 (Option.some.inj hs12) ?_
  refine g_aload_n (pc := 229) 0 rfl dX12_machine_229 rfl ?_
  refine g_getC (pc := 230) (e := 0) (in_12 hX (by omega)) fr_X12_44 dX12_machine_230 rfl ?_
  refine g_iload_n (pc := 233) 1 rfl dX12_machine_233 rfl ?_
  refine g_aload_n (pc := 234) 0 rfl dX12_machine_234 rfl ?_
  refine g_getC (pc := 235) (e := 0) (in_12 hX (by omega)) fr_X12_44 dX12_machine_235 rfl ?_
  refine g_iconst (pc := 238) (v := 2) dX12_machine_238 (by decide) ?_
  obtain ⟨j13, hj13, hf⟩ := am_bd hf
  have gj13 := am_ix_lt hj13
  refine g_aI (pc := 239) (in_1323 hX (by omega)) ak_1323 hj13 dX12_machine_239 ?_
  obtain ⟨j14, hj14, hf⟩ := am_bd hf
  have gj14 := am_ix_lt hj14
  obtain ⟨s15, hs15, hf⟩ := am_bd hf
  refine g_sI (pc := 240) (in_1323 hX (by omega)) ak_1323 hj14 dX12_machine_240 (Option.some.inj hs15) ?_
  refine g_iconst (pc := 241) (v := 0) dX12_machine_241 (by decide) ?_
  refine g_istore_n (pc := 242) [(3, .int 0), (0, .ref (am_ad X 12 0)), (1, .int v1)] dX12_machine_242 rfl (Nat.le_of_ble_eq_true rfl) rfl ?_
  obtain ⟨w16, hw16, hf⟩ := am_bd hf
  refine am_sub [1, 2, 0] rfl (l_X12_machine_243 hX v1  s15 (0, s15) hw16 ?_)
  intro t e
  subst e
  refine g_iconst (pc := 275) (v := 0) dX12_machine_275 (by decide) ?_
  refine g_istore_n (pc := 276) [(3, .int 0), (0, .ref (am_ad X 12 0)), (1, .int v1)] dX12_machine_276 rfl (Nat.le_of_ble_eq_true rfl) rfl ?_
  obtain ⟨w17, hw17, hf⟩ := am_bd hf
  refine am_sub [1, 2, 0] rfl (l_X12_machine_277 hX v1  w16 (0, w16) hw17 ?_)
  intro t e
  subst e
  refine g_aload_n (pc := 309) 0 rfl dX12_machine_309 rfl ?_
  refine g_getC (pc := 310) (e := 0) (in_12 hX (by omega)) fr_X12_35 dX12_machine_310 rfl ?_
  refine g_iload_n (pc := 313) 1 rfl dX12_machine_313 rfl ?_
  obtain ⟨j18, hj18, hf⟩ := am_bd hf
  have gj18 := am_ix_lt hj18
  refine g_aI (pc := 314) (in_1320 hX (by omega)) ak_1320 hj18 dX12_machine_314 ?_
  have ho := Option.some.inj hf
  subst ho
  exact g_ireturn (pc := 315) (st := []) rfl dX12_machine_315 hk
noncomputable def f_X12_machine (v1 : Int32) (v2 : Int32) (σ : am_H) : Option (Int32 × am_H) :=
  (some (am_wI σ 12 0 1 0)).bind fun s1 =>
  (some (am_wI s1 12 0 0 0)).bind fun s2 =>
  (f_X12_isMachine v1 s2).bind fun p3 =>
  if p3 = true then
   (if v2 < 0 then
    (f_X12_machine_35 s2)
   else
   if (s2.1 12 0 8) < v2 then
    (f_X12_machine_35 s2)
   else
   (some (am_wI s2 12 0 9 v2)).bind fun s7 =>
   (some (am_wI s7 12 0 8 0)).bind fun s8 =>
   (some (am_wI s8 12 0 16 0)).bind fun s9 =>
   (some (am_wI s9 12 0 12 0)).bind fun s10 =>
   (am_ix 3 2).bind fun j11 =>
   (some (am_wI s10 1320 0 j11 0)).bind fun s12 =>
   (am_ix 3 2).bind fun j13 =>
   (some (am_wI s12 1321 0 j13 0)).bind fun s14 =>
   (am_ix 3 2).bind fun j15 =>
   (some (am_wI s14 1322 0 j15 0)).bind fun s16 =>
   (am_ix 3 2).bind fun j17 =>
   (some (am_wI s16 1323 0 j17 0)).bind fun s18 =>
   (some (am_wI s18 12 0 27 (am_b false))).bind fun s19 =>
   (some (am_wI s19 12 0 28 (am_b false))).bind fun s20 =>
   (f_X12_next s20).bind fun p21 =>
   (am_loop (fun s => f_X12_machine_103 v1 s) p21).bind fun w22 =>
   (some (am_wI w22 12 0 10 (w22.1 12 0 12))).bind fun s23 =>
   if (s23.1 12 0 12) = 0 then
    (f_X12_machine_176 v1 (-1) s23)
   else
   f_X12_machine_176 v1 (s23.1 12 0 13) s23)
  else
  (f_X12_refuse 2 s2).bind fun p25 =>
  some (p25.1, p25.2)
set_option maxRecDepth 100000 in
set_option maxHeartbeats 4000000 in
theorem q_X12_machine {X : am_X} (hX : am_ks X = am_ksM) {Q : Option Value → am_H → Prop} (v1 : Int32) (v2 : Int32) (σ : am_H) {o : Int32 × am_H} (hf : f_X12_machine v1 v2 σ = some o) (hk : Q (some (.int o.1)) o.2) : am_G X gm_X12_machine Q 0 [(0, .ref (am_ad X 12 0)), (1, .int v1), (2, .int v2)] [] σ := by
  unfold f_X12_machine at hf
  refine g_aload_n (pc := 0) 0 rfl dX12_machine_0 rfl ?_
  refine g_iconst (pc := 1) (v := 0) dX12_machine_1 (by decide) ?_
  obtain ⟨s1, hs1, hf⟩ := am_bd hf
  refine g_setI (pc := 2) (in_12 hX (by omega)) fr_X12_122 dX12_machine_2 (Option.some.inj hs1) ?_
  refine g_aload_n (pc := 5) 0 rfl dX12_machine_5 rfl ?_
  refine g_iconst (pc := 6) (v := 0) dX12_machine_6 (by decide) ?_
  obtain ⟨s2, hs2, hf⟩ := am_bd hf
  refine g_setI (pc := 7) (in_12 hX (by omega)) fr_X12_125 dX12_machine_7 (Option.some.inj hs2) ?_
  refine g_iload_n (pc := 10) 1 rfl dX12_machine_10 rfl ?_
  obtain ⟨p3, hp3, hf⟩ := am_bd hf
  refine g_cS (pc := 11) (As := [.int v1]) (st := []) (st1 := [.int (am_b p3)]) mS_X12_isMachine ln_X12_280 rfl (Nat.le_of_ble_eq_true rfl) (Nat.le_of_ble_eq_true rfl) (k_X12_isMachine hX v1 s2 hp3) dX12_machine_11 rfl rfl ?_
  refine bt_ne (pc := 14) 23 dX12_machine_14 rfl (fun c4 => ?_) (fun c4 => ?_)
  · replace hf := am_ifT c4 hf
    refine g_iload_n (pc := 23) 2 rfl dX12_machine_23 rfl ?_
    refine bz_lt (pc := 24) 35 dX12_machine_24 rfl (fun c5 => ?_) (fun c5 => ?_)
    · replace hf := am_ifT c5 hf
      exact am_sub [0] rfl (q_X12_machine_35 hX s2 hf hk)
    replace hf := am_ifF c5 hf
    refine g_iload_n (pc := 27) 2 rfl dX12_machine_27 rfl ?_
    refine g_aload_n (pc := 28) 0 rfl dX12_machine_28 rfl ?_
    refine g_getI (pc := 29) (in_12 hX (by omega)) fr_X12_274 dX12_machine_29 ?_
    refine bi_le (pc := 32) 41 dX12_machine_32 rfl (fun c6 => ?_) (fun c6 => ?_)
    · replace hf := am_ifT c6 hf
      exact am_sub [0] rfl (q_X12_machine_35 hX s2 hf hk)
    replace hf := am_ifF c6 hf
    refine g_aload_n (pc := 41) 0 rfl dX12_machine_41 rfl ?_
    refine g_iload_n (pc := 42) 2 rfl dX12_machine_42 rfl ?_
    obtain ⟨s7, hs7, hf⟩ := am_bd hf
    refine g_setI (pc := 43) (in_12 hX (by omega)) fr_X12_155 dX12_machine_43 (Option.some.inj hs7) ?_
    refine g_aload_n (pc := 46) 0 rfl dX12_machine_46 rfl ?_
    refine g_iconst (pc := 47) (v := 0) dX12_machine_47 (by decide) ?_
    obtain ⟨s8, hs8, hf⟩ := am_bd hf
    refine g_setI (pc := 48) (in_12 hX (by omega)) fr_X12_274 dX12_machine_48 (Option.some.inj hs8) ?_
    refine g_aload_n (pc := 51) 0 rfl dX12_machine_51 rfl ?_
    refine g_iconst (pc := 52) (v := 0) dX12_machine_52 (by decide) ?_
    obtain ⟨s9, hs9, hf⟩ := am_bd hf
    refine g_setI (pc := 53) (in_12 hX (by omega)) fr_X12_158 dX12_machine_53 (Option.some.inj hs9) ?_
    refine g_aload_n (pc := 56) 0 rfl dX12_machine_56 rfl ?_
    refine g_iconst (pc := 57) (v := 0) dX12_machine_57 (by decide) ?_
    obtain ⟨s10, hs10, hf⟩ := am_bd hf
    refine g_setI (pc := 58) (in_12 hX (by omega)) fr_X12_223 dX12_machine_58 (Option.some.inj hs10) ?_
    refine g_aload_n (pc := 61) 0 rfl dX12_machine_61 rfl ?_
    refine g_getC (pc := 62) (e := 0) (in_12 hX (by omega)) fr_X12_35 dX12_machine_62 rfl ?_
    refine g_iconst (pc := 65) (v := 2) dX12_machine_65 (by decide) ?_
    refine g_iconst (pc := 66) (v := 0) dX12_machine_66 (by decide) ?_
    obtain ⟨j11, hj11, hf⟩ := am_bd hf
    have gj11 := am_ix_lt hj11
    obtain ⟨s12, hs12, hf⟩ := am_bd hf
    refine g_sI (pc := 67) (in_1320 hX (by omega)) ak_1320 hj11 dX12_machine_67 (Option.some.inj hs12) ?_
    refine g_aload_n (pc := 68) 0 rfl dX12_machine_68 rfl ?_
    refine g_getC (pc := 69) (e := 0) (in_12 hX (by omega)) fr_X12_38 dX12_machine_69 rfl ?_
    refine g_iconst (pc := 72) (v := 2) dX12_machine_72 (by decide) ?_
    refine g_iconst (pc := 73) (v := 0) dX12_machine_73 (by decide) ?_
    obtain ⟨j13, hj13, hf⟩ := am_bd hf
    have gj13 := am_ix_lt hj13
    obtain ⟨s14, hs14, hf⟩ := am_bd hf
    refine g_sI (pc := 74) (in_1321 hX (by omega)) ak_1321 hj13 dX12_machine_74 (Option.some.inj hs14) ?_
    refine g_aload_n (pc := 75) 0 rfl dX12_machine_75 rfl ?_
    refine g_getC (pc := 76) (e := 0) (in_12 hX (by omega)) fr_X12_41 dX12_machine_76 rfl ?_
    refine g_iconst (pc := 79) (v := 2) dX12_machine_79 (by decide) ?_
    refine g_iconst (pc := 80) (v := 0) dX12_machine_80 (by decide) ?_
    obtain ⟨j15, hj15, hf⟩ := am_bd hf
    have gj15 := am_ix_lt hj15
    obtain ⟨s16, hs16, hf⟩ := am_bd hf
    refine g_sI (pc := 81) (in_1322 hX (by omega)) ak_1322 hj15 dX12_machine_81 (Option.some.inj hs16) ?_
    refine g_aload_n (pc := 82) 0 rfl dX12_machine_82 rfl ?_
    refine g_getC (pc := 83) (e := 0) (in_12 hX (by omega)) fr_X12_44 dX12_machine_83 rfl ?_
    refine g_iconst (pc := 86) (v := 2) dX12_machine_86 (by decide) ?_
    refine g_iconst (pc := 87) (v := 0) dX12_machine_87 (by decide) ?_
    obtain ⟨j17, hj17, hf⟩ := am_bd hf
    have gj17 := am_ix_lt hj17
    obtain ⟨s18, hs18, hf⟩ := am_bd hf
    refine g_sI (pc := 88) (in_1323 hX (by omega)) ak_1323 hj17 dX12_machine_88 (Option.some.inj hs18) ?_
    refine g_aload_n (pc := 89) 0 rfl dX12_machine_89 rfl ?_
    refine g_iconst (pc := 90) (v := 0) dX12_machine_90 (by decide) ?_
    obtain ⟨s19, hs19, hf⟩ := am_bd hf
    refine g_setZ (x := false) (pc := 91) (in_12 hX (by omega)) fr_X12_267 dX12_machine_91 (Option.some.inj hs19) ?_
    refine g_aload_n (pc := 94) 0 rfl dX12_machine_94 rfl ?_
    refine g_iconst (pc := 95) (v := 0) dX12_machine_95 (by decide) ?_
    obtain ⟨s20, hs20, hf⟩ := am_bd hf
    refine g_setZ (x := false) (pc := 96) (in_12 hX (by omega)) fr_X12_271 dX12_machine_96 (Option.some.inj hs20) ?_
    refine g_aload_n (pc := 99) 0 rfl dX12_machine_99 rfl ?_
    obtain ⟨p21, hp21, hf⟩ := am_bd hf
    refine g_cV (pc := 100) (As := []) (st := []) (st1 := []) (in_12 hX (by omega)) kk_12 mV_X12_next ln_X12_233 rfl (Nat.le_of_ble_eq_true rfl) (Nat.le_of_ble_eq_true rfl) (k_X12_next hX s20 hp21) dX12_machine_100 rfl rfl ?_
    obtain ⟨w22, hw22, hf⟩ := am_bd hf
    refine am_sub [0, 1] rfl (l_X12_machine_103 hX v1  p21 p21 hw22 ?_)
    intro t e
    subst e
    refine g_aload_n (pc := 152) 0 rfl dX12_machine_152 rfl ?_
    refine g_aload_n (pc := 153) 0 rfl dX12_machine_153 rfl ?_
    refine g_getI (pc := 154) (in_12 hX (by omega)) fr_X12_223 dX12_machine_154 ?_
    obtain ⟨s23, hs23, hf⟩ := am_bd hf
    refine g_setI (pc := 157) (in_12 hX (by omega)) fr_X12_28 dX12_machine_157 (Option.some.inj hs23) ?_
    refine g_aload_n (pc := 160) 0 rfl dX12_machine_160 rfl ?_
    refine g_aload_n (pc := 161) 0 rfl dX12_machine_161 rfl ?_
    refine g_getI (pc := 162) (in_12 hX (by omega)) fr_X12_223 dX12_machine_162 ?_
    refine bz_ne (pc := 165) 172 dX12_machine_165 rfl (fun c24 => ?_) (fun c24 => ?_)
    · replace hf := am_ifT c24 hf
      refine g_iconst (pc := 168) (v := (-1)) dX12_machine_168 (by decide) ?_
      refine g_goto (pc := 169) 176 dX12_machine_169 rfl ?_
      exact q_X12_machine_176 hX v1 (-1) s23 hf hk
    replace hf := am_ifF c24 hf
    refine g_aload_n (pc := 172) 0 rfl dX12_machine_172 rfl ?_
    refine g_getI (pc := 173) (in_12 hX (by omega)) fr_X12_226 dX12_machine_173 ?_
    exact q_X12_machine_176 hX v1 (s23.1 12 0 13) s23 hf hk
  replace hf := am_ifF c4 hf
  refine g_aload_n (pc := 17) 0 rfl dX12_machine_17 rfl ?_
  refine g_iconst (pc := 18) (v := 2) dX12_machine_18 (by decide) ?_
  obtain ⟨p25, hp25, hf⟩ := am_bd hf
  refine g_cV (pc := 19) (As := [.int 2]) (st := []) (st1 := [.int p25.1]) (in_12 hX (by omega)) kk_12 mV_X12_refuse ln_X12_283 rfl (Nat.le_of_ble_eq_true rfl) (Nat.le_of_ble_eq_true rfl) (k_X12_refuse hX 2 s2 hp25) dX12_machine_19 rfl rfl ?_
  have ho := Option.some.inj hf
  subst ho
  exact g_ireturn (pc := 22) (st := []) rfl dX12_machine_22 hk
theorem k_X12_machine {X : am_X} (hX : am_ks X = am_ksM) (v1 : Int32) (v2 : Int32) (σ : am_H) {o : Int32 × am_H} (hf : f_X12_machine v1 v2 σ = some o) : am_C X gm_X12_machine [.ref (am_ad X 12 0), .int v1, .int v2] σ (am_is (some (.int o.1)) o.2) :=
  am_ofG rfl (Nat.le_of_ble_eq_true rfl) rfl (q_X12_machine hX v1 v2 σ hf ⟨rfl, rfl⟩)
theorem dX12_fault_0 : decode cX12_fault 0 = .ok (.aload_n 0, 1) := by decide +kernel
theorem dX12_fault_1 : decode cX12_fault 1 = .ok (.iconst 0, 1) := by decide +kernel
theorem dX12_fault_2 : decode cX12_fault 2 = .ok (.putfield 122, 3) := by decide +kernel
theorem dX12_fault_5 : decode cX12_fault 5 = .ok (.iload_n 1, 1) := by decide +kernel
theorem dX12_fault_6 : decode cX12_fault 6 = .ok (.ifCond .ne 10, 3) := by decide +kernel
theorem dX12_fault_9 : decode cX12_fault 9 = .ok (.aload_n 0, 1) := by decide +kernel
theorem dX12_fault_10 : decode cX12_fault 10 = .ok (.getfield 28, 3) := by decide +kernel
theorem dX12_fault_13 : decode cX12_fault 13 = .ok (.goto 16, 3) := by decide +kernel
theorem dX12_fault_16 : decode cX12_fault 16 = .ok (.iload_n 1, 1) := by decide +kernel
theorem dX12_fault_17 : decode cX12_fault 17 = .ok (.iconst 1, 1) := by decide +kernel
theorem dX12_fault_18 : decode cX12_fault 18 = .ok (.if_icmp .ne 10, 3) := by decide +kernel
theorem dX12_fault_21 : decode cX12_fault 21 = .ok (.aload_n 0, 1) := by decide +kernel
theorem dX12_fault_22 : decode cX12_fault 22 = .ok (.getfield 32, 3) := by decide +kernel
theorem dX12_fault_25 : decode cX12_fault 25 = .ok (.goto 4, 3) := by decide +kernel
theorem dX12_fault_28 : decode cX12_fault 28 = .ok (.iconst (-1), 1) := by decide +kernel
theorem dX12_fault_29 : decode cX12_fault 29 = .ok (.ireturn, 1) := by decide +kernel
noncomputable def f_X12_fault (v1 : Int32) (σ : am_H) : Option (Int32 × am_H) :=
  (some (am_wI σ 12 0 1 0)).bind fun s1 =>
  if v1 = 0 then
   (some ((s1.1 12 0 10), s1))
  else
  if v1 = 1 then
   (some ((s1.1 12 0 11), s1))
  else
  some ((-1), s1)
set_option maxRecDepth 100000 in
set_option maxHeartbeats 4000000 in
theorem q_X12_fault {X : am_X} (hX : am_ks X = am_ksM) {Q : Option Value → am_H → Prop} (v1 : Int32) (σ : am_H) {o : Int32 × am_H} (hf : f_X12_fault v1 σ = some o) (hk : Q (some (.int o.1)) o.2) : am_G X gm_X12_fault Q 0 [(0, .ref (am_ad X 12 0)), (1, .int v1)] [] σ := by
  unfold f_X12_fault at hf
  refine g_aload_n (pc := 0) 0 rfl dX12_fault_0 rfl ?_
  refine g_iconst (pc := 1) (v := 0) dX12_fault_1 (by decide) ?_
  obtain ⟨s1, hs1, hf⟩ := am_bd hf
  refine g_setI (pc := 2) (in_12 hX (by omega)) fr_X12_122 dX12_fault_2 (Option.some.inj hs1) ?_
  refine g_iload_n (pc := 5) 1 rfl dX12_fault_5 rfl ?_
  refine bz_ne (pc := 6) 16 dX12_fault_6 rfl (fun c2 => ?_) (fun c2 => ?_)
  · replace hf := am_ifT c2 hf
    refine g_aload_n (pc := 9) 0 rfl dX12_fault_9 rfl ?_
    refine g_getI (pc := 10) (in_12 hX (by omega)) fr_X12_28 dX12_fault_10 ?_
    refine g_goto (pc := 13) 29 dX12_fault_13 rfl ?_
    have ho := Option.some.inj hf
    subst ho
    exact g_ireturn (pc := 29) (st := []) rfl dX12_fault_29 hk
  replace hf := am_ifF c2 hf
  refine g_iload_n (pc := 16) 1 rfl dX12_fault_16 rfl ?_
  refine g_iconst (pc := 17) (v := 1) dX12_fault_17 (by decide) ?_
  refine bi_ne (pc := 18) 28 dX12_fault_18 rfl (fun c3 => ?_) (fun c3 => ?_)
  · replace hf := am_ifT c3 hf
    refine g_aload_n (pc := 21) 0 rfl dX12_fault_21 rfl ?_
    refine g_getI (pc := 22) (in_12 hX (by omega)) fr_X12_32 dX12_fault_22 ?_
    refine g_goto (pc := 25) 29 dX12_fault_25 rfl ?_
    have ho := Option.some.inj hf
    subst ho
    exact g_ireturn (pc := 29) (st := []) rfl dX12_fault_29 hk
  replace hf := am_ifF c3 hf
  refine g_iconst (pc := 28) (v := (-1)) dX12_fault_28 (by decide) ?_
  have ho := Option.some.inj hf
  subst ho
  exact g_ireturn (pc := 29) (st := []) rfl dX12_fault_29 hk
theorem k_X12_fault {X : am_X} (hX : am_ks X = am_ksM) (v1 : Int32) (σ : am_H) {o : Int32 × am_H} (hf : f_X12_fault v1 σ = some o) : am_C X gm_X12_fault [.ref (am_ad X 12 0), .int v1] σ (am_is (some (.int o.1)) o.2) :=
  am_ofG rfl (Nat.le_of_ble_eq_true rfl) rfl (q_X12_fault hX v1 σ hf ⟨rfl, rfl⟩)
theorem dX12_isWaveOf_0 : decode cX12_isWaveOf 0 = .ok (.iload_n 1, 1) := by decide +kernel
theorem dX12_isWaveOf_1 : decode cX12_isWaveOf 1 = .ok (.invokestatic 280, 3) := by decide +kernel
theorem dX12_isWaveOf_4 : decode cX12_isWaveOf 4 = .ok (.ifCond .eq 25, 3) := by decide +kernel
theorem dX12_isWaveOf_7 : decode cX12_isWaveOf 7 = .ok (.iload_n 2, 1) := by decide +kernel
theorem dX12_isWaveOf_8 : decode cX12_isWaveOf 8 = .ok (.i2l, 1) := by decide +kernel
theorem dX12_isWaveOf_9 : decode cX12_isWaveOf 9 = .ok (.lconst 0, 1) := by decide +kernel
theorem dX12_isWaveOf_10 : decode cX12_isWaveOf 10 = .ok (.aload_n 0, 1) := by decide +kernel
theorem dX12_isWaveOf_11 : decode cX12_isWaveOf 11 = .ok (.getfield 35, 3) := by decide +kernel
theorem dX12_isWaveOf_14 : decode cX12_isWaveOf 14 = .ok (.iload_n 1, 1) := by decide +kernel
theorem dX12_isWaveOf_15 : decode cX12_isWaveOf 15 = .ok (.iaload, 1) := by decide +kernel
theorem dX12_isWaveOf_16 : decode cX12_isWaveOf 16 = .ok (.iconst 1, 1) := by decide +kernel
theorem dX12_isWaveOf_17 : decode cX12_isWaveOf 17 = .ok (.isub, 1) := by decide +kernel
theorem dX12_isWaveOf_18 : decode cX12_isWaveOf 18 = .ok (.i2l, 1) := by decide +kernel
theorem dX12_isWaveOf_19 : decode cX12_isWaveOf 19 = .ok (.invokestatic 239, 3) := by decide +kernel
theorem dX12_isWaveOf_22 : decode cX12_isWaveOf 22 = .ok (.ifCond .eq 7, 3) := by decide +kernel
theorem dX12_isWaveOf_25 : decode cX12_isWaveOf 25 = .ok (.iconst 1, 1) := by decide +kernel
theorem dX12_isWaveOf_26 : decode cX12_isWaveOf 26 = .ok (.goto 4, 3) := by decide +kernel
theorem dX12_isWaveOf_29 : decode cX12_isWaveOf 29 = .ok (.iconst 0, 1) := by decide +kernel
theorem dX12_isWaveOf_30 : decode cX12_isWaveOf 30 = .ok (.ireturn, 1) := by decide +kernel
noncomputable def f_X12_isWaveOf (v1 : Int32) (v2 : Int32) (σ : am_H) : Option (Bool) :=
  (f_X12_isMachine v1 σ).bind fun p1 =>
  if p1 = true then
   ((am_ix 3 v1).bind fun j3 =>
   (f_X12_isIn (Int32.toInt64 v2) 0 (Int32.toInt64 ((σ.1 1320 0 j3) - 1)) σ).bind fun p4 =>
   if p4 = true then
    (some true)
   else
   some false)
  else
  some false
set_option maxRecDepth 100000 in
set_option maxHeartbeats 4000000 in
theorem q_X12_isWaveOf {X : am_X} (hX : am_ks X = am_ksM) {Q : Option Value → am_H → Prop} (v1 : Int32) (v2 : Int32) (σ : am_H) {o : Bool} (hf : f_X12_isWaveOf v1 v2 σ = some o) (hk : Q (some (.int (am_b o))) σ) : am_G X gm_X12_isWaveOf Q 0 [(0, .ref (am_ad X 12 0)), (1, .int v1), (2, .int v2)] [] σ := by
  unfold f_X12_isWaveOf at hf
  refine g_iload_n (pc := 0) 1 rfl dX12_isWaveOf_0 rfl ?_
  obtain ⟨p1, hp1, hf⟩ := am_bd hf
  refine g_cS (pc := 1) (As := [.int v1]) (st := []) (st1 := [.int (am_b p1)]) mS_X12_isMachine ln_X12_280 rfl (Nat.le_of_ble_eq_true rfl) (Nat.le_of_ble_eq_true rfl) (k_X12_isMachine hX v1 σ hp1) dX12_isWaveOf_1 rfl rfl ?_
  refine bt_eq (pc := 4) 29 dX12_isWaveOf_4 rfl (fun c2 => ?_) (fun c2 => ?_)
  · replace hf := am_ifT c2 hf
    refine g_iload_n (pc := 7) 2 rfl dX12_isWaveOf_7 rfl ?_
    refine g_i2l (pc := 8) dX12_isWaveOf_8 ?_
    refine g_lconst (pc := 9) (v := 0) dX12_isWaveOf_9 (by decide) ?_
    refine g_aload_n (pc := 10) 0 rfl dX12_isWaveOf_10 rfl ?_
    refine g_getC (pc := 11) (e := 0) (in_12 hX (by omega)) fr_X12_35 dX12_isWaveOf_11 rfl ?_
    refine g_iload_n (pc := 14) 1 rfl dX12_isWaveOf_14 rfl ?_
    obtain ⟨j3, hj3, hf⟩ := am_bd hf
    have gj3 := am_ix_lt hj3
    refine g_aI (pc := 15) (in_1320 hX (by omega)) ak_1320 hj3 dX12_isWaveOf_15 ?_
    refine g_iconst (pc := 16) (v := 1) dX12_isWaveOf_16 (by decide) ?_
    refine g_isub (pc := 17) dX12_isWaveOf_17 ?_
    refine g_i2l (pc := 18) dX12_isWaveOf_18 ?_
    obtain ⟨p4, hp4, hf⟩ := am_bd hf
    refine g_cS (pc := 19) (As := [.long (Int32.toInt64 v2), .long 0, .long (Int32.toInt64 ((σ.1 1320 0 j3) - 1))]) (st := []) (st1 := [.int (am_b p4)]) mS_X12_isIn ln_X12_239 rfl (Nat.le_of_ble_eq_true rfl) (Nat.le_of_ble_eq_true rfl) (k_X12_isIn hX (Int32.toInt64 v2) 0 (Int32.toInt64 ((σ.1 1320 0 j3) - 1)) σ hp4) dX12_isWaveOf_19 rfl rfl ?_
    refine bt_eq (pc := 22) 29 dX12_isWaveOf_22 rfl (fun c5 => ?_) (fun c5 => ?_)
    · replace hf := am_ifT c5 hf
      refine g_iconst (pc := 25) (v := 1) dX12_isWaveOf_25 (by decide) ?_
      refine g_goto (pc := 26) 30 dX12_isWaveOf_26 rfl ?_
      have ho := Option.some.inj hf
      subst ho
      exact g_zreturn (pc := 30) (st := []) (x := true) rfl dX12_isWaveOf_30 hk
    replace hf := am_ifF c5 hf
    refine g_iconst (pc := 29) (v := 0) dX12_isWaveOf_29 (by decide) ?_
    have ho := Option.some.inj hf
    subst ho
    exact g_zreturn (pc := 30) (st := []) (x := false) rfl dX12_isWaveOf_30 hk
  replace hf := am_ifF c2 hf
  refine g_iconst (pc := 29) (v := 0) dX12_isWaveOf_29 (by decide) ?_
  have ho := Option.some.inj hf
  subst ho
  exact g_zreturn (pc := 30) (st := []) (x := false) rfl dX12_isWaveOf_30 hk
theorem k_X12_isWaveOf {X : am_X} (hX : am_ks X = am_ksM) (v1 : Int32) (v2 : Int32) (σ : am_H) {o : Bool} (hf : f_X12_isWaveOf v1 v2 σ = some o) : am_C X gm_X12_isWaveOf [.ref (am_ad X 12 0), .int v1, .int v2] σ (am_is (some (.int (am_b o))) σ) :=
  am_ofG rfl (Nat.le_of_ble_eq_true rfl) rfl (q_X12_isWaveOf hX v1 v2 σ hf ⟨rfl, rfl⟩)
theorem dX12_isHour_0 : decode cX12_isHour 0 = .ok (.iload_n 0, 1) := by decide +kernel
theorem dX12_isHour_1 : decode cX12_isHour 1 = .ok (.i2l, 1) := by decide +kernel
theorem dX12_isHour_2 : decode cX12_isHour 2 = .ok (.lconst 0, 1) := by decide +kernel
theorem dX12_isHour_3 : decode cX12_isHour 3 = .ok (.ldc2_w 295, 3) := by decide +kernel
theorem dX12_isHour_6 : decode cX12_isHour 6 = .ok (.invokestatic 239, 3) := by decide +kernel
theorem dX12_isHour_9 : decode cX12_isHour 9 = .ok (.ireturn, 1) := by decide +kernel
noncomputable def f_X12_isHour (v0 : Int32) (σ : am_H) : Option (Bool) :=
  (f_X12_isIn (Int32.toInt64 v0) 0 99999 σ).bind fun p1 =>
  some p1
set_option maxRecDepth 100000 in
set_option maxHeartbeats 4000000 in
theorem q_X12_isHour {X : am_X} (hX : am_ks X = am_ksM) {Q : Option Value → am_H → Prop} (v0 : Int32) (σ : am_H) {o : Bool} (hf : f_X12_isHour v0 σ = some o) (hk : Q (some (.int (am_b o))) σ) : am_G X gm_X12_isHour Q 0 [(0, .int v0)] [] σ := by
  unfold f_X12_isHour at hf
  refine g_iload_n (pc := 0) 0 rfl dX12_isHour_0 rfl ?_
  refine g_i2l (pc := 1) dX12_isHour_1 ?_
  refine g_lconst (pc := 2) (v := 0) dX12_isHour_2 (by decide) ?_
  refine g_ldc2 (pc := 3) (v := 99999) (tb_9 (List.mem_of_getElem? (i := 34) (by decide +kernel))) dX12_isHour_3 ?_
  obtain ⟨p1, hp1, hf⟩ := am_bd hf
  refine g_cS (pc := 6) (As := [.long (Int32.toInt64 v0), .long 0, .long 99999]) (st := []) (st1 := [.int (am_b p1)]) mS_X12_isIn ln_X12_239 rfl (Nat.le_of_ble_eq_true rfl) (Nat.le_of_ble_eq_true rfl) (k_X12_isIn hX (Int32.toInt64 v0) 0 99999 σ hp1) dX12_isHour_6 rfl rfl ?_
  have ho := Option.some.inj hf
  subst ho
  exact g_zreturn (pc := 9) (st := []) (x := p1) rfl dX12_isHour_9 hk
theorem k_X12_isHour {X : am_X} (hX : am_ks X = am_ksM) (v0 : Int32) (σ : am_H) {o : Bool} (hf : f_X12_isHour v0 σ = some o) : am_C X gm_X12_isHour [.int v0] σ (am_is (some (.int (am_b o))) σ) :=
  am_ofG rfl (Nat.le_of_ble_eq_true rfl) rfl (q_X12_isHour hX v0 σ hf ⟨rfl, rfl⟩)
theorem dX12_told_0 : decode cX12_told 0 = .ok (.aload_n 0, 1) := by decide +kernel
theorem dX12_told_1 : decode cX12_told 1 = .ok (.iconst 0, 1) := by decide +kernel
theorem dX12_told_2 : decode cX12_told 2 = .ok (.putfield 122, 3) := by decide +kernel
theorem dX12_told_5 : decode cX12_told 5 = .ok (.aload_n 0, 1) := by decide +kernel
theorem dX12_told_6 : decode cX12_told 6 = .ok (.iconst 0, 1) := by decide +kernel
theorem dX12_told_7 : decode cX12_told 7 = .ok (.putfield 125, 3) := by decide +kernel
theorem dX12_told_10 : decode cX12_told 10 = .ok (.iload_n 1, 1) := by decide +kernel
theorem dX12_told_11 : decode cX12_told 11 = .ok (.invokestatic 280, 3) := by decide +kernel
theorem dX12_told_14 : decode cX12_told 14 = .ok (.ifCond .ne 9, 3) := by decide +kernel
theorem dX12_told_17 : decode cX12_told 17 = .ok (.aload_n 0, 1) := by decide +kernel
theorem dX12_told_18 : decode cX12_told 18 = .ok (.iconst 2, 1) := by decide +kernel
theorem dX12_told_19 : decode cX12_told 19 = .ok (.invokevirtual 283, 3) := by decide +kernel
theorem dX12_told_22 : decode cX12_told 22 = .ok (.ireturn, 1) := by decide +kernel
theorem dX12_told_23 : decode cX12_told 23 = .ok (.iload_n 2, 1) := by decide +kernel
theorem dX12_told_24 : decode cX12_told 24 = .ok (.ifCond .ne 12, 3) := by decide +kernel
theorem dX12_told_27 : decode cX12_told 27 = .ok (.aload_n 0, 1) := by decide +kernel
theorem dX12_told_28 : decode cX12_told 28 = .ok (.getfield 35, 3) := by decide +kernel
theorem dX12_told_31 : decode cX12_told 31 = .ok (.iload_n 1, 1) := by decide +kernel
theorem dX12_told_32 : decode cX12_told 32 = .ok (.iaload, 1) := by decide +kernel
theorem dX12_told_33 : decode cX12_told 33 = .ok (.goto 50, 3) := by decide +kernel
theorem dX12_told_36 : decode cX12_told 36 = .ok (.iload_n 2, 1) := by decide +kernel
theorem dX12_told_37 : decode cX12_told 37 = .ok (.iconst 1, 1) := by decide +kernel
theorem dX12_told_38 : decode cX12_told 38 = .ok (.if_icmp .ne 12, 3) := by decide +kernel
theorem dX12_told_41 : decode cX12_told 41 = .ok (.aload_n 0, 1) := by decide +kernel
theorem dX12_told_42 : decode cX12_told 42 = .ok (.getfield 38, 3) := by decide +kernel
theorem dX12_told_45 : decode cX12_told 45 = .ok (.iload_n 1, 1) := by decide +kernel
theorem dX12_told_46 : decode cX12_told 46 = .ok (.iaload, 1) := by decide +kernel
theorem dX12_told_47 : decode cX12_told 47 = .ok (.goto 36, 3) := by decide +kernel
theorem dX12_told_50 : decode cX12_told 50 = .ok (.iload_n 2, 1) := by decide +kernel
theorem dX12_told_51 : decode cX12_told 51 = .ok (.iconst 2, 1) := by decide +kernel
theorem dX12_told_52 : decode cX12_told 52 = .ok (.if_icmp .ne 12, 3) := by decide +kernel
theorem dX12_told_55 : decode cX12_told 55 = .ok (.aload_n 0, 1) := by decide +kernel
theorem dX12_told_56 : decode cX12_told 56 = .ok (.getfield 41, 3) := by decide +kernel
theorem dX12_told_59 : decode cX12_told 59 = .ok (.iload_n 1, 1) := by decide +kernel
theorem dX12_told_60 : decode cX12_told 60 = .ok (.iaload, 1) := by decide +kernel
theorem dX12_told_61 : decode cX12_told 61 = .ok (.goto 22, 3) := by decide +kernel
theorem dX12_told_64 : decode cX12_told 64 = .ok (.iload_n 2, 1) := by decide +kernel
theorem dX12_told_65 : decode cX12_told 65 = .ok (.iconst 3, 1) := by decide +kernel
theorem dX12_told_66 : decode cX12_told 66 = .ok (.if_icmp .ne 12, 3) := by decide +kernel
theorem dX12_told_69 : decode cX12_told 69 = .ok (.aload_n 0, 1) := by decide +kernel
theorem dX12_told_70 : decode cX12_told 70 = .ok (.getfield 44, 3) := by decide +kernel
theorem dX12_told_73 : decode cX12_told 73 = .ok (.iload_n 1, 1) := by decide +kernel
theorem dX12_told_74 : decode cX12_told 74 = .ok (.iaload, 1) := by decide +kernel
theorem dX12_told_75 : decode cX12_told 75 = .ok (.goto 8, 3) := by decide +kernel
theorem dX12_told_78 : decode cX12_told 78 = .ok (.aload_n 0, 1) := by decide +kernel
theorem dX12_told_79 : decode cX12_told 79 = .ok (.iconst 5, 1) := by decide +kernel
theorem dX12_told_80 : decode cX12_told 80 = .ok (.invokevirtual 283, 3) := by decide +kernel
theorem dX12_told_83 : decode cX12_told 83 = .ok (.ireturn, 1) := by decide +kernel
noncomputable def f_X12_told (v1 : Int32) (v2 : Int32) (σ : am_H) : Option (Int32 × am_H) :=
  (some (am_wI σ 12 0 1 0)).bind fun s1 =>
  (some (am_wI s1 12 0 0 0)).bind fun s2 =>
  (f_X12_isMachine v1 s2).bind fun p3 =>
  if p3 = true then
   (if v2 = 0 then
    ((am_ix 3 v1).bind fun j6 =>
    some ((s2.1 1320 0 j6), s2))
   else
   if v2 = 1 then
    ((am_ix 3 v1).bind fun j8 =>
    some ((s2.1 1321 0 j8), s2))
   else
   if v2 = 2 then
    ((am_ix 3 v1).bind fun j10 =>
    some ((s2.1 1322 0 j10), s2))
   else
   if v2 = 3 then
    ((am_ix 3 v1).bind fun j12 =>
    some ((s2.1 1323 0 j12), s2))
   else
   (f_X12_refuse 5 s2).bind fun p13 =>
   some (p13.1, p13.2))
  else
  (f_X12_refuse 2 s2).bind fun p14 =>
  some (p14.1, p14.2)
set_option maxRecDepth 100000 in
set_option maxHeartbeats 4000000 in
theorem q_X12_told {X : am_X} (hX : am_ks X = am_ksM) {Q : Option Value → am_H → Prop} (v1 : Int32) (v2 : Int32) (σ : am_H) {o : Int32 × am_H} (hf : f_X12_told v1 v2 σ = some o) (hk : Q (some (.int o.1)) o.2) : am_G X gm_X12_told Q 0 [(0, .ref (am_ad X 12 0)), (1, .int v1), (2, .int v2)] [] σ := by
  unfold f_X12_told at hf
  refine g_aload_n (pc := 0) 0 rfl dX12_told_0 rfl ?_
  refine g_iconst (pc := 1) (v := 0) dX12_told_1 (by decide) ?_
  obtain ⟨s1, hs1, hf⟩ := am_bd hf
  refine g_setI (pc := 2) (in_12 hX (by omega)) fr_X12_122 dX12_told_2 (Option.some.inj hs1) ?_
  refine g_aload_n (pc := 5) 0 rfl dX12_told_5 rfl ?_
  refine g_iconst (pc := 6) (v := 0) dX12_told_6 (by decide) ?_
  obtain ⟨s2, hs2, hf⟩ := am_bd hf
  refine g_setI (pc := 7) (in_12 hX (by omega)) fr_X12_125 dX12_told_7 (Option.some.inj hs2) ?_
  refine g_iload_n (pc := 10) 1 rfl dX12_told_10 rfl ?_
  obtain ⟨p3, hp3, hf⟩ := am_bd hf
  refine g_cS (pc := 11) (As := [.int v1]) (st := []) (st1 := [.int (am_b p3)]) mS_X12_isMachine ln_X12_280 rfl (Nat.le_of_ble_eq_true rfl) (Nat.le_of_ble_eq_true rfl) (k_X12_isMachine hX v1 s2 hp3) dX12_told_11 rfl rfl ?_
  refine bt_ne (pc := 14) 23 dX12_told_14 rfl (fun c4 => ?_) (fun c4 => ?_)
  · replace hf := am_ifT c4 hf
    refine g_iload_n (pc := 23) 2 rfl dX12_told_23 rfl ?_
    refine bz_ne (pc := 24) 36 dX12_told_24 rfl (fun c5 => ?_) (fun c5 => ?_)
    · replace hf := am_ifT c5 hf
      refine g_aload_n (pc := 27) 0 rfl dX12_told_27 rfl ?_
      refine g_getC (pc := 28) (e := 0) (in_12 hX (by omega)) fr_X12_35 dX12_told_28 rfl ?_
      refine g_iload_n (pc := 31) 1 rfl dX12_told_31 rfl ?_
      obtain ⟨j6, hj6, hf⟩ := am_bd hf
      have gj6 := am_ix_lt hj6
      refine g_aI (pc := 32) (in_1320 hX (by omega)) ak_1320 hj6 dX12_told_32 ?_
      refine g_goto (pc := 33) 83 dX12_told_33 rfl ?_
      have ho := Option.some.inj hf
      subst ho
      exact g_ireturn (pc := 83) (st := []) rfl dX12_told_83 hk
    replace hf := am_ifF c5 hf
    refine g_iload_n (pc := 36) 2 rfl dX12_told_36 rfl ?_
    refine g_iconst (pc := 37) (v := 1) dX12_told_37 (by decide) ?_
    refine bi_ne (pc := 38) 50 dX12_told_38 rfl (fun c7 => ?_) (fun c7 => ?_)
    · replace hf := am_ifT c7 hf
      refine g_aload_n (pc := 41) 0 rfl dX12_told_41 rfl ?_
      refine g_getC (pc := 42) (e := 0) (in_12 hX (by omega)) fr_X12_38 dX12_told_42 rfl ?_
      refine g_iload_n (pc := 45) 1 rfl dX12_told_45 rfl ?_
      obtain ⟨j8, hj8, hf⟩ := am_bd hf
      have gj8 := am_ix_lt hj8
      refine g_aI (pc := 46) (in_1321 hX (by omega)) ak_1321 hj8 dX12_told_46 ?_
      refine g_goto (pc := 47) 83 dX12_told_47 rfl ?_
      have ho := Option.some.inj hf
      subst ho
      exact g_ireturn (pc := 83) (st := []) rfl dX12_told_83 hk
    replace hf := am_ifF c7 hf
    refine g_iload_n (pc := 50) 2 rfl dX12_told_50 rfl ?_
    refine g_iconst (pc := 51) (v := 2) dX12_told_51 (by decide) ?_
    refine bi_ne (pc := 52) 64 dX12_told_52 rfl (fun c9 => ?_) (fun c9 => ?_)
    · replace hf := am_ifT c9 hf
      refine g_aload_n (pc := 55) 0 rfl dX12_told_55 rfl ?_
      refine g_getC (pc := 56) (e := 0) (in_12 hX (by omega)) fr_X12_41 dX12_told_56 rfl ?_
      refine g_iload_n (pc := 59) 1 rfl dX12_told_59 rfl ?_
      obtain ⟨j10, hj10, hf⟩ := am_bd hf
      have gj10 := am_ix_lt hj10
      refine g_aI (pc := 60) (in_1322 hX (by omega)) ak_1322 hj10 dX12_told_60 ?_
      refine g_goto (pc := 61) 83 dX12_told_61 rfl ?_
      have ho := Option.some.inj hf
      subst ho
      exact g_ireturn (pc := 83) (st := []) rfl dX12_told_83 hk
    replace hf := am_ifF c9 hf
    refine g_iload_n (pc := 64) 2 rfl dX12_told_64 rfl ?_
    refine g_iconst (pc := 65) (v := 3) dX12_told_65 (by decide) ?_
    refine bi_ne (pc := 66) 78 dX12_told_66 rfl (fun c11 => ?_) (fun c11 => ?_)
    · replace hf := am_ifT c11 hf
      refine g_aload_n (pc := 69) 0 rfl dX12_told_69 rfl ?_
      refine g_getC (pc := 70) (e := 0) (in_12 hX (by omega)) fr_X12_44 dX12_told_70 rfl ?_
      refine g_iload_n (pc := 73) 1 rfl dX12_told_73 rfl ?_
      obtain ⟨j12, hj12, hf⟩ := am_bd hf
      have gj12 := am_ix_lt hj12
      refine g_aI (pc := 74) (in_1323 hX (by omega)) ak_1323 hj12 dX12_told_74 ?_
      refine g_goto (pc := 75) 83 dX12_told_75 rfl ?_
      have ho := Option.some.inj hf
      subst ho
      exact g_ireturn (pc := 83) (st := []) rfl dX12_told_83 hk
    replace hf := am_ifF c11 hf
    refine g_aload_n (pc := 78) 0 rfl dX12_told_78 rfl ?_
    refine g_iconst (pc := 79) (v := 5) dX12_told_79 (by decide) ?_
    obtain ⟨p13, hp13, hf⟩ := am_bd hf
    refine g_cV (pc := 80) (As := [.int 5]) (st := []) (st1 := [.int p13.1]) (in_12 hX (by omega)) kk_12 mV_X12_refuse ln_X12_283 rfl (Nat.le_of_ble_eq_true rfl) (Nat.le_of_ble_eq_true rfl) (k_X12_refuse hX 5 s2 hp13) dX12_told_80 rfl rfl ?_
    have ho := Option.some.inj hf
    subst ho
    exact g_ireturn (pc := 83) (st := []) rfl dX12_told_83 hk
  replace hf := am_ifF c4 hf
  refine g_aload_n (pc := 17) 0 rfl dX12_told_17 rfl ?_
  refine g_iconst (pc := 18) (v := 2) dX12_told_18 (by decide) ?_
  obtain ⟨p14, hp14, hf⟩ := am_bd hf
  refine g_cV (pc := 19) (As := [.int 2]) (st := []) (st1 := [.int p14.1]) (in_12 hX (by omega)) kk_12 mV_X12_refuse ln_X12_283 rfl (Nat.le_of_ble_eq_true rfl) (Nat.le_of_ble_eq_true rfl) (k_X12_refuse hX 2 s2 hp14) dX12_told_19 rfl rfl ?_
  have ho := Option.some.inj hf
  subst ho
  exact g_ireturn (pc := 22) (st := []) rfl dX12_told_22 hk
theorem k_X12_told {X : am_X} (hX : am_ks X = am_ksM) (v1 : Int32) (v2 : Int32) (σ : am_H) {o : Int32 × am_H} (hf : f_X12_told v1 v2 σ = some o) : am_C X gm_X12_told [.ref (am_ad X 12 0), .int v1, .int v2] σ (am_is (some (.int o.1)) o.2) :=
  am_ofG rfl (Nat.le_of_ble_eq_true rfl) rfl (q_X12_told hX v1 v2 σ hf ⟨rfl, rfl⟩)
theorem dX12_of_0 : decode cX12_of 0 = .ok (.aload_n 0, 1) := by decide +kernel
theorem dX12_of_1 : decode cX12_of 1 = .ok (.getfield 47, 3) := by decide +kernel
theorem dX12_of_4 : decode cX12_of 4 = .ok (.aload_n 0, 1) := by decide +kernel
theorem dX12_of_5 : decode cX12_of 5 = .ok (.iload_n 1, 1) := by decide +kernel
theorem dX12_of_6 : decode cX12_of 6 = .ok (.iload_n 2, 1) := by decide +kernel
theorem dX12_of_7 : decode cX12_of 7 = .ok (.iload_n 3, 1) := by decide +kernel
theorem dX12_of_8 : decode cX12_of 8 = .ok (.invokevirtual 252, 3) := by decide +kernel
theorem dX12_of_11 : decode cX12_of 11 = .ok (.iaload, 1) := by decide +kernel
theorem dX12_of_12 : decode cX12_of 12 = .ok (.ireturn, 1) := by decide +kernel
noncomputable def f_X12_of (v1 : Int32) (v2 : Int32) (v3 : Int32) (σ : am_H) : Option (Int32) :=
  (f_X12_cell v1 v2 v3 σ).bind fun p1 =>
  (am_ix 162 p1).bind fun j2 =>
  some (σ.1 1324 0 j2)
set_option maxRecDepth 100000 in
set_option maxHeartbeats 4000000 in
theorem q_X12_of {X : am_X} (hX : am_ks X = am_ksM) {Q : Option Value → am_H → Prop} (v1 : Int32) (v2 : Int32) (v3 : Int32) (σ : am_H) {o : Int32} (hf : f_X12_of v1 v2 v3 σ = some o) (hk : Q (some (.int o)) σ) : am_G X gm_X12_of Q 0 [(0, .ref (am_ad X 12 0)), (1, .int v1), (2, .int v2), (3, .int v3)] [] σ := by
  unfold f_X12_of at hf
  refine g_aload_n (pc := 0) 0 rfl dX12_of_0 rfl ?_
  refine g_getC (pc := 1) (e := 0) (in_12 hX (by omega)) fr_X12_47 dX12_of_1 rfl ?_
  refine g_aload_n (pc := 4) 0 rfl dX12_of_4 rfl ?_
  refine g_iload_n (pc := 5) 1 rfl dX12_of_5 rfl ?_
  refine g_iload_n (pc := 6) 2 rfl dX12_of_6 rfl ?_
  refine g_iload_n (pc := 7) 3 rfl dX12_of_7 rfl ?_
  obtain ⟨p1, hp1, hf⟩ := am_bd hf
  refine g_cV (pc := 8) (As := [.int v1, .int v2, .int v3]) (st := [.ref (am_ad X 1324 0)]) (st1 := [.int p1, .ref (am_ad X 1324 0)]) (in_12 hX (by omega)) kk_12 mV_X12_cell ln_X12_252 rfl (Nat.le_of_ble_eq_true rfl) (Nat.le_of_ble_eq_true rfl) (k_X12_cell hX v1 v2 v3 σ hp1) dX12_of_8 rfl rfl ?_
  obtain ⟨j2, hj2, hf⟩ := am_bd hf
  have gj2 := am_ix_lt hj2
  refine g_aI (pc := 11) (in_1324 hX (by omega)) ak_1324 hj2 dX12_of_11 ?_
  have ho := Option.some.inj hf
  subst ho
  exact g_ireturn (pc := 12) (st := []) rfl dX12_of_12 hk
theorem k_X12_of {X : am_X} (hX : am_ks X = am_ksM) (v1 : Int32) (v2 : Int32) (v3 : Int32) (σ : am_H) {o : Int32} (hf : f_X12_of v1 v2 v3 σ = some o) : am_C X gm_X12_of [.ref (am_ad X 12 0), .int v1, .int v2, .int v3] σ (am_is (some (.int o)) σ) :=
  am_ofG rfl (Nat.le_of_ble_eq_true rfl) rfl (q_X12_of hX v1 v2 v3 σ hf ⟨rfl, rfl⟩)
theorem dX12_hasTrain_0 : decode cX12_hasTrain 0 = .ok (.aload_n 0, 1) := by decide +kernel
theorem dX12_hasTrain_1 : decode cX12_hasTrain 1 = .ok (.iload_n 1, 1) := by decide +kernel
theorem dX12_hasTrain_2 : decode cX12_hasTrain 2 = .ok (.iload_n 2, 1) := by decide +kernel
theorem dX12_hasTrain_3 : decode cX12_hasTrain 3 = .ok (.iconst 4, 1) := by decide +kernel
theorem dX12_hasTrain_4 : decode cX12_hasTrain 4 = .ok (.invokevirtual 297, 3) := by decide +kernel
theorem dX12_hasTrain_7 : decode cX12_hasTrain 7 = .ok (.ifCond .le 7, 3) := by decide +kernel
theorem dX12_hasTrain_10 : decode cX12_hasTrain 10 = .ok (.iconst 1, 1) := by decide +kernel
theorem dX12_hasTrain_11 : decode cX12_hasTrain 11 = .ok (.goto 4, 3) := by decide +kernel
theorem dX12_hasTrain_14 : decode cX12_hasTrain 14 = .ok (.iconst 0, 1) := by decide +kernel
theorem dX12_hasTrain_15 : decode cX12_hasTrain 15 = .ok (.ireturn, 1) := by decide +kernel
noncomputable def f_X12_hasTrain (v1 : Int32) (v2 : Int32) (σ : am_H) : Option (Bool) :=
  (f_X12_of v1 v2 4 σ).bind fun p1 =>
  if 0 < p1 then
   (some true)
  else
  some false
set_option maxRecDepth 100000 in
set_option maxHeartbeats 4000000 in
theorem q_X12_hasTrain {X : am_X} (hX : am_ks X = am_ksM) {Q : Option Value → am_H → Prop} (v1 : Int32) (v2 : Int32) (σ : am_H) {o : Bool} (hf : f_X12_hasTrain v1 v2 σ = some o) (hk : Q (some (.int (am_b o))) σ) : am_G X gm_X12_hasTrain Q 0 [(0, .ref (am_ad X 12 0)), (1, .int v1), (2, .int v2)] [] σ := by
  unfold f_X12_hasTrain at hf
  refine g_aload_n (pc := 0) 0 rfl dX12_hasTrain_0 rfl ?_
  refine g_iload_n (pc := 1) 1 rfl dX12_hasTrain_1 rfl ?_
  refine g_iload_n (pc := 2) 2 rfl dX12_hasTrain_2 rfl ?_
  refine g_iconst (pc := 3) (v := 4) dX12_hasTrain_3 (by decide) ?_
  obtain ⟨p1, hp1, hf⟩ := am_bd hf
  refine g_cV (pc := 4) (As := [.int v1, .int v2, .int 4]) (st := []) (st1 := [.int p1]) (in_12 hX (by omega)) kk_12 mV_X12_of ln_X12_297 rfl (Nat.le_of_ble_eq_true rfl) (Nat.le_of_ble_eq_true rfl) (k_X12_of hX v1 v2 4 σ hp1) dX12_hasTrain_4 rfl rfl ?_
  refine bz_le (pc := 7) 14 dX12_hasTrain_7 rfl (fun c2 => ?_) (fun c2 => ?_)
  · replace hf := am_ifT c2 hf
    refine g_iconst (pc := 10) (v := 1) dX12_hasTrain_10 (by decide) ?_
    refine g_goto (pc := 11) 15 dX12_hasTrain_11 rfl ?_
    have ho := Option.some.inj hf
    subst ho
    exact g_zreturn (pc := 15) (st := []) (x := true) rfl dX12_hasTrain_15 hk
  replace hf := am_ifF c2 hf
  refine g_iconst (pc := 14) (v := 0) dX12_hasTrain_14 (by decide) ?_
  have ho := Option.some.inj hf
  subst ho
  exact g_zreturn (pc := 15) (st := []) (x := false) rfl dX12_hasTrain_15 hk
theorem k_X12_hasTrain {X : am_X} (hX : am_ks X = am_ksM) (v1 : Int32) (v2 : Int32) (σ : am_H) {o : Bool} (hf : f_X12_hasTrain v1 v2 σ = some o) : am_C X gm_X12_hasTrain [.ref (am_ad X 12 0), .int v1, .int v2] σ (am_is (some (.int (am_b o))) σ) :=
  am_ofG rfl (Nat.le_of_ble_eq_true rfl) rfl (q_X12_hasTrain hX v1 v2 σ hf ⟨rfl, rfl⟩)
theorem dX12_wave_0 : decode cX12_wave 0 = .ok (.aload_n 0, 1) := by decide +kernel
theorem dX12_wave_1 : decode cX12_wave 1 = .ok (.iconst 0, 1) := by decide +kernel
theorem dX12_wave_2 : decode cX12_wave 2 = .ok (.putfield 122, 3) := by decide +kernel
theorem dX12_wave_5 : decode cX12_wave 5 = .ok (.aload_n 0, 1) := by decide +kernel
theorem dX12_wave_6 : decode cX12_wave 6 = .ok (.iconst 0, 1) := by decide +kernel
theorem dX12_wave_7 : decode cX12_wave 7 = .ok (.putfield 125, 3) := by decide +kernel
theorem dX12_wave_10 : decode cX12_wave 10 = .ok (.aload_n 0, 1) := by decide +kernel
theorem dX12_wave_11 : decode cX12_wave 11 = .ok (.iload_n 1, 1) := by decide +kernel
theorem dX12_wave_12 : decode cX12_wave 12 = .ok (.iload_n 2, 1) := by decide +kernel
theorem dX12_wave_13 : decode cX12_wave 13 = .ok (.invokevirtual 300, 3) := by decide +kernel
theorem dX12_wave_16 : decode cX12_wave 16 = .ok (.ifCond .ne 9, 3) := by decide +kernel
theorem dX12_wave_19 : decode cX12_wave 19 = .ok (.aload_n 0, 1) := by decide +kernel
theorem dX12_wave_20 : decode cX12_wave 20 = .ok (.iconst 2, 1) := by decide +kernel
theorem dX12_wave_21 : decode cX12_wave 21 = .ok (.invokevirtual 283, 3) := by decide +kernel
theorem dX12_wave_24 : decode cX12_wave 24 = .ok (.ireturn, 1) := by decide +kernel
theorem dX12_wave_25 : decode cX12_wave 25 = .ok (.iload_n 3, 1) := by decide +kernel
theorem dX12_wave_26 : decode cX12_wave 26 = .ok (.i2l, 1) := by decide +kernel
theorem dX12_wave_27 : decode cX12_wave 27 = .ok (.lconst 0, 1) := by decide +kernel
theorem dX12_wave_28 : decode cX12_wave 28 = .ok (.ldc2_w 304, 3) := by decide +kernel
theorem dX12_wave_31 : decode cX12_wave 31 = .ok (.invokestatic 239, 3) := by decide +kernel
theorem dX12_wave_34 : decode cX12_wave 34 = .ok (.ifCond .ne 9, 3) := by decide +kernel
theorem dX12_wave_37 : decode cX12_wave 37 = .ok (.aload_n 0, 1) := by decide +kernel
theorem dX12_wave_38 : decode cX12_wave 38 = .ok (.iconst 5, 1) := by decide +kernel
theorem dX12_wave_39 : decode cX12_wave 39 = .ok (.invokevirtual 283, 3) := by decide +kernel
theorem dX12_wave_42 : decode cX12_wave 42 = .ok (.ireturn, 1) := by decide +kernel
theorem dX12_wave_43 : decode cX12_wave 43 = .ok (.iload_n 3, 1) := by decide +kernel
theorem dX12_wave_44 : decode cX12_wave 44 = .ok (.iconst 3, 1) := by decide +kernel
theorem dX12_wave_45 : decode cX12_wave 45 = .ok (.if_icmp .le 19, 3) := by decide +kernel
theorem dX12_wave_48 : decode cX12_wave 48 = .ok (.aload_n 0, 1) := by decide +kernel
theorem dX12_wave_49 : decode cX12_wave 49 = .ok (.iload_n 1, 1) := by decide +kernel
theorem dX12_wave_50 : decode cX12_wave 50 = .ok (.iload_n 2, 1) := by decide +kernel
theorem dX12_wave_51 : decode cX12_wave 51 = .ok (.invokevirtual 306, 3) := by decide +kernel
theorem dX12_wave_54 : decode cX12_wave 54 = .ok (.ifCond .ne 10, 3) := by decide +kernel
theorem dX12_wave_57 : decode cX12_wave 57 = .ok (.aload_n 0, 1) := by decide +kernel
theorem dX12_wave_58 : decode cX12_wave 58 = .ok (.bipush 8, 2) := by decide +kernel
theorem dX12_wave_60 : decode cX12_wave 60 = .ok (.invokevirtual 283, 3) := by decide +kernel
theorem dX12_wave_63 : decode cX12_wave 63 = .ok (.ireturn, 1) := by decide +kernel
theorem dX12_wave_64 : decode cX12_wave 64 = .ok (.aload_n 0, 1) := by decide +kernel
theorem dX12_wave_65 : decode cX12_wave 65 = .ok (.iload_n 1, 1) := by decide +kernel
theorem dX12_wave_66 : decode cX12_wave 66 = .ok (.iload_n 2, 1) := by decide +kernel
theorem dX12_wave_67 : decode cX12_wave 67 = .ok (.iload_n 3, 1) := by decide +kernel
theorem dX12_wave_68 : decode cX12_wave 68 = .ok (.iconst 3, 1) := by decide +kernel
theorem dX12_wave_69 : decode cX12_wave 69 = .ok (.if_icmp .le 9, 3) := by decide +kernel
theorem dX12_wave_72 : decode cX12_wave 72 = .ok (.iload_n 3, 1) := by decide +kernel
theorem dX12_wave_73 : decode cX12_wave 73 = .ok (.iconst 1, 1) := by decide +kernel
theorem dX12_wave_74 : decode cX12_wave 74 = .ok (.iadd, 1) := by decide +kernel
theorem dX12_wave_75 : decode cX12_wave 75 = .ok (.goto 4, 3) := by decide +kernel
theorem dX12_wave_78 : decode cX12_wave 78 = .ok (.iload_n 3, 1) := by decide +kernel
theorem dX12_wave_79 : decode cX12_wave 79 = .ok (.invokevirtual 297, 3) := by decide +kernel
theorem dX12_wave_82 : decode cX12_wave 82 = .ok (.ireturn, 1) := by decide +kernel
noncomputable def f_X12_wave_79 (k1 : Int32) (k2 : Int32) (k3 : Int32) (σ : am_H) : Option (Int32 × am_H) :=
  (f_X12_of k1 k2 k3 σ).bind fun p1 =>
  some (p1, σ)
set_option maxRecDepth 100000 in
set_option maxHeartbeats 4000000 in
theorem q_X12_wave_79 {X : am_X} (hX : am_ks X = am_ksM) {Q : Option Value → am_H → Prop} (k1 : Int32) (k2 : Int32) (k3 : Int32) (σ : am_H) {o : Int32 × am_H} (hf : f_X12_wave_79 k1 k2 k3 σ = some o) (hk : Q (some (.int o.1)) o.2) : am_G X gm_X12_wave Q 79 [] [.int k3, .int k2, .int k1, .ref (am_ad X 12 0)] σ := by
  unfold f_X12_wave_79 at hf
  obtain ⟨p1, hp1, hf⟩ := am_bd hf
  refine g_cV (pc := 79) (As := [.int k1, .int k2, .int k3]) (st := []) (st1 := [.int p1]) (in_12 hX (by omega)) kk_12 mV_X12_of ln_X12_297 rfl (Nat.le_of_ble_eq_true rfl) (Nat.le_of_ble_eq_true rfl) (k_X12_of hX k1 k2 k3 σ hp1) dX12_wave_79 rfl rfl ?_
  have ho := Option.some.inj hf
  subst ho
  exact g_ireturn (pc := 82) (st := []) rfl dX12_wave_82 hk
noncomputable def f_X12_wave_64 (v1 : Int32) (v2 : Int32) (v3 : Int32) (σ : am_H) : Option (Int32 × am_H) :=
  if 3 < v3 then
   (f_X12_wave_79 v1 v2 (v3 + 1) σ)
  else
  f_X12_wave_79 v1 v2 v3 σ
set_option maxRecDepth 100000 in
set_option maxHeartbeats 4000000 in
theorem q_X12_wave_64 {X : am_X} (hX : am_ks X = am_ksM) {Q : Option Value → am_H → Prop} (v1 : Int32) (v2 : Int32) (v3 : Int32) (σ : am_H) {o : Int32 × am_H} (hf : f_X12_wave_64 v1 v2 v3 σ = some o) (hk : Q (some (.int o.1)) o.2) : am_G X gm_X12_wave Q 64 [(0, .ref (am_ad X 12 0)), (1, .int v1), (2, .int v2), (3, .int v3)] [] σ := by
  unfold f_X12_wave_64 at hf
  refine g_aload_n (pc := 64) 0 rfl dX12_wave_64 rfl ?_
  refine g_iload_n (pc := 65) 1 rfl dX12_wave_65 rfl ?_
  refine g_iload_n (pc := 66) 2 rfl dX12_wave_66 rfl ?_
  refine g_iload_n (pc := 67) 3 rfl dX12_wave_67 rfl ?_
  refine g_iconst (pc := 68) (v := 3) dX12_wave_68 (by decide) ?_
  refine bi_le (pc := 69) 78 dX12_wave_69 rfl (fun c1 => ?_) (fun c1 => ?_)
  · replace hf := am_ifT c1 hf
    refine g_iload_n (pc := 72) 3 rfl dX12_wave_72 rfl ?_
    refine g_iconst (pc := 73) (v := 1) dX12_wave_73 (by decide) ?_
    refine g_iadd (pc := 74) dX12_wave_74 ?_
    refine g_goto (pc := 75) 79 dX12_wave_75 rfl ?_
    exact am_sub [] rfl (q_X12_wave_79 hX v1 v2 (v3 + 1) σ hf hk)
  replace hf := am_ifF c1 hf
  refine g_iload_n (pc := 78) 3 rfl dX12_wave_78 rfl ?_
  exact am_sub [] rfl (q_X12_wave_79 hX v1 v2 v3 σ hf hk)
noncomputable def f_X12_wave (v1 : Int32) (v2 : Int32) (v3 : Int32) (σ : am_H) : Option (Int32 × am_H) :=
  (some (am_wI σ 12 0 1 0)).bind fun s1 =>
  (some (am_wI s1 12 0 0 0)).bind fun s2 =>
  (f_X12_isWaveOf v1 v2 s2).bind fun p3 =>
  if p3 = true then
   ((f_X12_isIn (Int32.toInt64 v3) 0 7 s2).bind fun p5 =>
   if p5 = true then
    (if 3 < v3 then
     ((f_X12_hasTrain v1 v2 s2).bind fun p8 =>
     if p8 = true then
      (f_X12_wave_64 v1 v2 v3 s2)
     else
     (f_X12_refuse 8 s2).bind fun p10 =>
     some (p10.1, p10.2))
    else
    f_X12_wave_64 v1 v2 v3 s2)
   else
   (f_X12_refuse 5 s2).bind fun p11 =>
   some (p11.1, p11.2))
  else
  (f_X12_refuse 2 s2).bind fun p12 =>
  some (p12.1, p12.2)
set_option maxRecDepth 100000 in
set_option maxHeartbeats 4000000 in
theorem q_X12_wave {X : am_X} (hX : am_ks X = am_ksM) {Q : Option Value → am_H → Prop} (v1 : Int32) (v2 : Int32) (v3 : Int32) (σ : am_H) {o : Int32 × am_H} (hf : f_X12_wave v1 v2 v3 σ = some o) (hk : Q (some (.int o.1)) o.2) : am_G X gm_X12_wave Q 0 [(0, .ref (am_ad X 12 0)), (1, .int v1), (2, .int v2), (3, .int v3)] [] σ := by
  unfold f_X12_wave at hf
  refine g_aload_n (pc := 0) 0 rfl dX12_wave_0 rfl ?_
  refine g_iconst (pc := 1) (v := 0) dX12_wave_1 (by decide) ?_
  obtain ⟨s1, hs1, hf⟩ := am_bd hf
  refine g_setI (pc := 2) (in_12 hX (by omega)) fr_X12_122 dX12_wave_2 (Option.some.inj hs1) ?_
  refine g_aload_n (pc := 5) 0 rfl dX12_wave_5 rfl ?_
  refine g_iconst (pc := 6) (v := 0) dX12_wave_6 (by decide) ?_
  obtain ⟨s2, hs2, hf⟩ := am_bd hf
  refine g_setI (pc := 7) (in_12 hX (by omega)) fr_X12_125 dX12_wave_7 (Option.some.inj hs2) ?_
  refine g_aload_n (pc := 10) 0 rfl dX12_wave_10 rfl ?_
  refine g_iload_n (pc := 11) 1 rfl dX12_wave_11 rfl ?_
  refine g_iload_n (pc := 12) 2 rfl dX12_wave_12 rfl ?_
  obtain ⟨p3, hp3, hf⟩ := am_bd hf
  refine g_cV (pc := 13) (As := [.int v1, .int v2]) (st := []) (st1 := [.int (am_b p3)]) (in_12 hX (by omega)) kk_12 mV_X12_isWaveOf ln_X12_300 rfl (Nat.le_of_ble_eq_true rfl) (Nat.le_of_ble_eq_true rfl) (k_X12_isWaveOf hX v1 v2 s2 hp3) dX12_wave_13 rfl rfl ?_
  refine bt_ne (pc := 16) 25 dX12_wave_16 rfl (fun c4 => ?_) (fun c4 => ?_)
  · replace hf := am_ifT c4 hf
    refine g_iload_n (pc := 25) 3 rfl dX12_wave_25 rfl ?_
    refine g_i2l (pc := 26) dX12_wave_26 ?_
    refine g_lconst (pc := 27) (v := 0) dX12_wave_27 (by decide) ?_
    refine g_ldc2 (pc := 28) (v := 7) (tb_9 (List.mem_of_getElem? (i := 12) (by decide +kernel))) dX12_wave_28 ?_
    obtain ⟨p5, hp5, hf⟩ := am_bd hf
    refine g_cS (pc := 31) (As := [.long (Int32.toInt64 v3), .long 0, .long 7]) (st := []) (st1 := [.int (am_b p5)]) mS_X12_isIn ln_X12_239 rfl (Nat.le_of_ble_eq_true rfl) (Nat.le_of_ble_eq_true rfl) (k_X12_isIn hX (Int32.toInt64 v3) 0 7 s2 hp5) dX12_wave_31 rfl rfl ?_
    refine bt_ne (pc := 34) 43 dX12_wave_34 rfl (fun c6 => ?_) (fun c6 => ?_)
    · replace hf := am_ifT c6 hf
      refine g_iload_n (pc := 43) 3 rfl dX12_wave_43 rfl ?_
      refine g_iconst (pc := 44) (v := 3) dX12_wave_44 (by decide) ?_
      refine bi_le (pc := 45) 64 dX12_wave_45 rfl (fun c7 => ?_) (fun c7 => ?_)
      · replace hf := am_ifT c7 hf
        refine g_aload_n (pc := 48) 0 rfl dX12_wave_48 rfl ?_
        refine g_iload_n (pc := 49) 1 rfl dX12_wave_49 rfl ?_
        refine g_iload_n (pc := 50) 2 rfl dX12_wave_50 rfl ?_
        obtain ⟨p8, hp8, hf⟩ := am_bd hf
        refine g_cV (pc := 51) (As := [.int v1, .int v2]) (st := []) (st1 := [.int (am_b p8)]) (in_12 hX (by omega)) kk_12 mV_X12_hasTrain ln_X12_306 rfl (Nat.le_of_ble_eq_true rfl) (Nat.le_of_ble_eq_true rfl) (k_X12_hasTrain hX v1 v2 s2 hp8) dX12_wave_51 rfl rfl ?_
        refine bt_ne (pc := 54) 64 dX12_wave_54 rfl (fun c9 => ?_) (fun c9 => ?_)
        · replace hf := am_ifT c9 hf
          exact q_X12_wave_64 hX v1 v2 v3 s2 hf hk
        replace hf := am_ifF c9 hf
        refine g_aload_n (pc := 57) 0 rfl dX12_wave_57 rfl ?_
        refine g_bipush (pc := 58) (v := 8) dX12_wave_58 (by decide) ?_
        obtain ⟨p10, hp10, hf⟩ := am_bd hf
        refine g_cV (pc := 60) (As := [.int 8]) (st := []) (st1 := [.int p10.1]) (in_12 hX (by omega)) kk_12 mV_X12_refuse ln_X12_283 rfl (Nat.le_of_ble_eq_true rfl) (Nat.le_of_ble_eq_true rfl) (k_X12_refuse hX 8 s2 hp10) dX12_wave_60 rfl rfl ?_
        have ho := Option.some.inj hf
        subst ho
        exact g_ireturn (pc := 63) (st := []) rfl dX12_wave_63 hk
      replace hf := am_ifF c7 hf
      exact q_X12_wave_64 hX v1 v2 v3 s2 hf hk
    replace hf := am_ifF c6 hf
    refine g_aload_n (pc := 37) 0 rfl dX12_wave_37 rfl ?_
    refine g_iconst (pc := 38) (v := 5) dX12_wave_38 (by decide) ?_
    obtain ⟨p11, hp11, hf⟩ := am_bd hf
    refine g_cV (pc := 39) (As := [.int 5]) (st := []) (st1 := [.int p11.1]) (in_12 hX (by omega)) kk_12 mV_X12_refuse ln_X12_283 rfl (Nat.le_of_ble_eq_true rfl) (Nat.le_of_ble_eq_true rfl) (k_X12_refuse hX 5 s2 hp11) dX12_wave_39 rfl rfl ?_
    have ho := Option.some.inj hf
    subst ho
    exact g_ireturn (pc := 42) (st := []) rfl dX12_wave_42 hk
  replace hf := am_ifF c4 hf
  refine g_aload_n (pc := 19) 0 rfl dX12_wave_19 rfl ?_
  refine g_iconst (pc := 20) (v := 2) dX12_wave_20 (by decide) ?_
  obtain ⟨p12, hp12, hf⟩ := am_bd hf
  refine g_cV (pc := 21) (As := [.int 2]) (st := []) (st1 := [.int p12.1]) (in_12 hX (by omega)) kk_12 mV_X12_refuse ln_X12_283 rfl (Nat.le_of_ble_eq_true rfl) (Nat.le_of_ble_eq_true rfl) (k_X12_refuse hX 2 s2 hp12) dX12_wave_21 rfl rfl ?_
  have ho := Option.some.inj hf
  subst ho
  exact g_ireturn (pc := 24) (st := []) rfl dX12_wave_24 hk
theorem k_X12_wave {X : am_X} (hX : am_ks X = am_ksM) (v1 : Int32) (v2 : Int32) (v3 : Int32) (σ : am_H) {o : Int32 × am_H} (hf : f_X12_wave v1 v2 v3 σ = some o) : am_C X gm_X12_wave [.ref (am_ad X 12 0), .int v1, .int v2, .int v3] σ (am_is (some (.int o.1)) o.2) :=
  am_ofG rfl (Nat.le_of_ble_eq_true rfl) rfl (q_X12_wave hX v1 v2 v3 σ hf ⟨rfl, rfl⟩)
theorem dX12_set_0 : decode cX12_set 0 = .ok (.aload_n 0, 1) := by decide +kernel
theorem dX12_set_1 : decode cX12_set 1 = .ok (.iconst 0, 1) := by decide +kernel
theorem dX12_set_2 : decode cX12_set 2 = .ok (.putfield 122, 3) := by decide +kernel
theorem dX12_set_5 : decode cX12_set 5 = .ok (.aload_n 0, 1) := by decide +kernel
theorem dX12_set_6 : decode cX12_set 6 = .ok (.iconst 0, 1) := by decide +kernel
theorem dX12_set_7 : decode cX12_set 7 = .ok (.putfield 125, 3) := by decide +kernel
theorem dX12_set_10 : decode cX12_set 10 = .ok (.aload_n 0, 1) := by decide +kernel
theorem dX12_set_11 : decode cX12_set 11 = .ok (.iload_n 1, 1) := by decide +kernel
theorem dX12_set_12 : decode cX12_set 12 = .ok (.iload_n 2, 1) := by decide +kernel
theorem dX12_set_13 : decode cX12_set 13 = .ok (.invokevirtual 300, 3) := by decide +kernel
theorem dX12_set_16 : decode cX12_set 16 = .ok (.ifCond .ne 9, 3) := by decide +kernel
theorem dX12_set_19 : decode cX12_set 19 = .ok (.aload_n 0, 1) := by decide +kernel
theorem dX12_set_20 : decode cX12_set 20 = .ok (.iconst 2, 1) := by decide +kernel
theorem dX12_set_21 : decode cX12_set 21 = .ok (.invokevirtual 137, 3) := by decide +kernel
theorem dX12_set_24 : decode cX12_set 24 = .ok (.ireturn, 1) := by decide +kernel
theorem dX12_set_25 : decode cX12_set 25 = .ok (.iload_n 3, 1) := by decide +kernel
theorem dX12_set_26 : decode cX12_set 26 = .ok (.i2l, 1) := by decide +kernel
theorem dX12_set_27 : decode cX12_set 27 = .ok (.lconst 0, 1) := by decide +kernel
theorem dX12_set_28 : decode cX12_set 28 = .ok (.ldc2_w 309, 3) := by decide +kernel
theorem dX12_set_31 : decode cX12_set 31 = .ok (.invokestatic 239, 3) := by decide +kernel
theorem dX12_set_34 : decode cX12_set 34 = .ok (.ifCond .eq 16, 3) := by decide +kernel
theorem dX12_set_37 : decode cX12_set 37 = .ok (.iload 4, 2) := by decide +kernel
theorem dX12_set_39 : decode cX12_set 39 = .ok (.i2l, 1) := by decide +kernel
theorem dX12_set_40 : decode cX12_set 40 = .ok (.lconst 0, 1) := by decide +kernel
theorem dX12_set_41 : decode cX12_set 41 = .ok (.ldc2_w 311, 3) := by decide +kernel
theorem dX12_set_44 : decode cX12_set 44 = .ok (.invokestatic 239, 3) := by decide +kernel
theorem dX12_set_47 : decode cX12_set 47 = .ok (.ifCond .ne 9, 3) := by decide +kernel
theorem dX12_set_50 : decode cX12_set 50 = .ok (.aload_n 0, 1) := by decide +kernel
theorem dX12_set_51 : decode cX12_set 51 = .ok (.iconst 5, 1) := by decide +kernel
theorem dX12_set_52 : decode cX12_set 52 = .ok (.invokevirtual 137, 3) := by decide +kernel
theorem dX12_set_55 : decode cX12_set 55 = .ok (.ireturn, 1) := by decide +kernel
theorem dX12_set_56 : decode cX12_set 56 = .ok (.aload_n 0, 1) := by decide +kernel
theorem dX12_set_57 : decode cX12_set 57 = .ok (.getfield 47, 3) := by decide +kernel
theorem dX12_set_60 : decode cX12_set 60 = .ok (.aload_n 0, 1) := by decide +kernel
theorem dX12_set_61 : decode cX12_set 61 = .ok (.iload_n 1, 1) := by decide +kernel
theorem dX12_set_62 : decode cX12_set 62 = .ok (.iload_n 2, 1) := by decide +kernel
theorem dX12_set_63 : decode cX12_set 63 = .ok (.iconst 2, 1) := by decide +kernel
theorem dX12_set_64 : decode cX12_set 64 = .ok (.invokevirtual 252, 3) := by decide +kernel
theorem dX12_set_67 : decode cX12_set 67 = .ok (.iload_n 3, 1) := by decide +kernel
theorem dX12_set_68 : decode cX12_set 68 = .ok (.iastore, 1) := by decide +kernel
theorem dX12_set_69 : decode cX12_set 69 = .ok (.aload_n 0, 1) := by decide +kernel
theorem dX12_set_70 : decode cX12_set 70 = .ok (.getfield 47, 3) := by decide +kernel
theorem dX12_set_73 : decode cX12_set 73 = .ok (.aload_n 0, 1) := by decide +kernel
theorem dX12_set_74 : decode cX12_set 74 = .ok (.iload_n 1, 1) := by decide +kernel
theorem dX12_set_75 : decode cX12_set 75 = .ok (.iload_n 2, 1) := by decide +kernel
theorem dX12_set_76 : decode cX12_set 76 = .ok (.iconst 3, 1) := by decide +kernel
theorem dX12_set_77 : decode cX12_set 77 = .ok (.invokevirtual 252, 3) := by decide +kernel
theorem dX12_set_80 : decode cX12_set 80 = .ok (.iload 4, 2) := by decide +kernel
theorem dX12_set_82 : decode cX12_set 82 = .ok (.iastore, 1) := by decide +kernel
theorem dX12_set_83 : decode cX12_set 83 = .ok (.iconst 1, 1) := by decide +kernel
theorem dX12_set_84 : decode cX12_set 84 = .ok (.ireturn, 1) := by decide +kernel
noncomputable def f_X12_set_50 (σ : am_H) : Option (Bool × am_H) :=
  (f_X12_no 5 σ).bind fun p1 =>
  some (p1.1, p1.2)
set_option maxRecDepth 100000 in
set_option maxHeartbeats 4000000 in
theorem q_X12_set_50 {X : am_X} (hX : am_ks X = am_ksM) {Q : Option Value → am_H → Prop} (σ : am_H) {o : Bool × am_H} (hf : f_X12_set_50 σ = some o) (hk : Q (some (.int (am_b o.1))) o.2) : am_G X gm_X12_set Q 50 [(0, .ref (am_ad X 12 0))] [] σ := by
  unfold f_X12_set_50 at hf
  refine g_aload_n (pc := 50) 0 rfl dX12_set_50 rfl ?_
  refine g_iconst (pc := 51) (v := 5) dX12_set_51 (by decide) ?_
  obtain ⟨p1, hp1, hf⟩ := am_bd hf
  refine g_cV (pc := 52) (As := [.int 5]) (st := []) (st1 := [.int (am_b p1.1)]) (in_12 hX (by omega)) kk_12 mV_X12_no ln_X12_137 rfl (Nat.le_of_ble_eq_true rfl) (Nat.le_of_ble_eq_true rfl) (k_X12_no hX 5 σ hp1) dX12_set_52 rfl rfl ?_
  have ho := Option.some.inj hf
  subst ho
  exact g_zreturn (pc := 55) (st := []) (x := p1.1) rfl dX12_set_55 hk
noncomputable def f_X12_set (v1 : Int32) (v2 : Int32) (v3 : Int32) (v4 : Int32) (σ : am_H) : Option (Bool × am_H) :=
  (some (am_wI σ 12 0 1 0)).bind fun s1 =>
  (some (am_wI s1 12 0 0 0)).bind fun s2 =>
  (f_X12_isWaveOf v1 v2 s2).bind fun p3 =>
  if p3 = true then
   ((f_X12_isIn (Int32.toInt64 v3) 0 99 s2).bind fun p5 =>
   if p5 = true then
    ((f_X12_isIn (Int32.toInt64 v4) 0 23 s2).bind fun p7 =>
    if p7 = true then
     ((f_X12_cell v1 v2 2 s2).bind fun p9 =>
     (am_ix 162 p9).bind fun j10 =>
     (some (am_wI s2 1324 0 j10 v3)).bind fun s11 =>
     (f_X12_cell v1 v2 3 s11).bind fun p12 =>
     (am_ix 162 p12).bind fun j13 =>
     (some (am_wI s11 1324 0 j13 v4)).bind fun s14 =>
     some (true, s14))
    else
    f_X12_set_50 s2)
   else
   f_X12_set_50 s2)
  else
  (f_X12_no 2 s2).bind fun p15 =>
  some (p15.1, p15.2)
set_option maxRecDepth 100000 in
set_option maxHeartbeats 4000000 in
theorem q_X12_set {X : am_X} (hX : am_ks X = am_ksM) {Q : Option Value → am_H → Prop} (v1 : Int32) (v2 : Int32) (v3 : Int32) (v4 : Int32) (σ : am_H) {o : Bool × am_H} (hf : f_X12_set v1 v2 v3 v4 σ = some o) (hk : Q (some (.int (am_b o.1))) o.2) : am_G X gm_X12_set Q 0 [(0, .ref (am_ad X 12 0)), (1, .int v1), (2, .int v2), (3, .int v3), (4, .int v4)] [] σ := by
  unfold f_X12_set at hf
  refine g_aload_n (pc := 0) 0 rfl dX12_set_0 rfl ?_
  refine g_iconst (pc := 1) (v := 0) dX12_set_1 (by decide) ?_
  obtain ⟨s1, hs1, hf⟩ := am_bd hf
  refine g_setI (pc := 2) (in_12 hX (by omega)) fr_X12_122 dX12_set_2 (Option.some.inj hs1) ?_
  refine g_aload_n (pc := 5) 0 rfl dX12_set_5 rfl ?_
  refine g_iconst (pc := 6) (v := 0) dX12_set_6 (by decide) ?_
  obtain ⟨s2, hs2, hf⟩ := am_bd hf
  refine g_setI (pc := 7) (in_12 hX (by omega)) fr_X12_125 dX12_set_7 (Option.some.inj hs2) ?_
  refine g_aload_n (pc := 10) 0 rfl dX12_set_10 rfl ?_
  refine g_iload_n (pc := 11) 1 rfl dX12_set_11 rfl ?_
  refine g_iload_n (pc := 12) 2 rfl dX12_set_12 rfl ?_
  obtain ⟨p3, hp3, hf⟩ := am_bd hf
  refine g_cV (pc := 13) (As := [.int v1, .int v2]) (st := []) (st1 := [.int (am_b p3)]) (in_12 hX (by omega)) kk_12 mV_X12_isWaveOf ln_X12_300 rfl (Nat.le_of_ble_eq_true rfl) (Nat.le_of_ble_eq_true rfl) (k_X12_isWaveOf hX v1 v2 s2 hp3) dX12_set_13 rfl rfl ?_
  refine bt_ne (pc := 16) 25 dX12_set_16 rfl (fun c4 => ?_) (fun c4 => ?_)
  · replace hf := am_ifT c4 hf
    refine g_iload_n (pc := 25) 3 rfl dX12_set_25 rfl ?_
    refine g_i2l (pc := 26) dX12_set_26 ?_
    refine g_lconst (pc := 27) (v := 0) dX12_set_27 (by decide) ?_
    refine g_ldc2 (pc := 28) (v := 99) (tb_9 (List.mem_of_getElem? (i := 25) (by decide +kernel))) dX12_set_28 ?_
    obtain ⟨p5, hp5, hf⟩ := am_bd hf
    refine g_cS (pc := 31) (As := [.long (Int32.toInt64 v3), .long 0, .long 99]) (st := []) (st1 := [.int (am_b p5)]) mS_X12_isIn ln_X12_239 rfl (Nat.le_of_ble_eq_true rfl) (Nat.le_of_ble_eq_true rfl) (k_X12_isIn hX (Int32.toInt64 v3) 0 99 s2 hp5) dX12_set_31 rfl rfl ?_
    refine bt_eq (pc := 34) 50 dX12_set_34 rfl (fun c6 => ?_) (fun c6 => ?_)
    · replace hf := am_ifT c6 hf
      refine g_iload (pc := 37) 4 rfl dX12_set_37 ?_
      refine g_i2l (pc := 39) dX12_set_39 ?_
      refine g_lconst (pc := 40) (v := 0) dX12_set_40 (by decide) ?_
      refine g_ldc2 (pc := 41) (v := 23) (tb_9 (List.mem_of_getElem? (i := 26) (by decide +kernel))) dX12_set_41 ?_
      obtain ⟨p7, hp7, hf⟩ := am_bd hf
      refine g_cS (pc := 44) (As := [.long (Int32.toInt64 v4), .long 0, .long 23]) (st := []) (st1 := [.int (am_b p7)]) mS_X12_isIn ln_X12_239 rfl (Nat.le_of_ble_eq_true rfl) (Nat.le_of_ble_eq_true rfl) (k_X12_isIn hX (Int32.toInt64 v4) 0 23 s2 hp7) dX12_set_44 rfl rfl ?_
      refine bt_ne (pc := 47) 56 dX12_set_47 rfl (fun c8 => ?_) (fun c8 => ?_)
      · replace hf := am_ifT c8 hf
        refine g_aload_n (pc := 56) 0 rfl dX12_set_56 rfl ?_
        refine g_getC (pc := 57) (e := 0) (in_12 hX (by omega)) fr_X12_47 dX12_set_57 rfl ?_
        refine g_aload_n (pc := 60) 0 rfl dX12_set_60 rfl ?_
        refine g_iload_n (pc := 61) 1 rfl dX12_set_61 rfl ?_
        refine g_iload_n (pc := 62) 2 rfl dX12_set_62 rfl ?_
        refine g_iconst (pc := 63) (v := 2) dX12_set_63 (by decide) ?_
        obtain ⟨p9, hp9, hf⟩ := am_bd hf
        refine g_cV (pc := 64) (As := [.int v1, .int v2, .int 2]) (st := [.ref (am_ad X 1324 0)]) (st1 := [.int p9, .ref (am_ad X 1324 0)]) (in_12 hX (by omega)) kk_12 mV_X12_cell ln_X12_252 rfl (Nat.le_of_ble_eq_true rfl) (Nat.le_of_ble_eq_true rfl) (k_X12_cell hX v1 v2 2 s2 hp9) dX12_set_64 rfl rfl ?_
        refine g_iload_n (pc := 67) 3 rfl dX12_set_67 rfl ?_
        obtain ⟨j10, hj10, hf⟩ := am_bd hf
        have gj10 := am_ix_lt hj10
        obtain ⟨s11, hs11, hf⟩ := am_bd hf
        refine g_sI (pc := 68) (in_1324 hX (by omega)) ak_1324 hj10 dX12_set_68 (Option.some.inj hs11) ?_
        refine g_aload_n (pc := 69) 0 rfl dX12_set_69 rfl ?_
        refine g_getC (pc := 70) (e := 0) (in_12 hX (by omega)) fr_X12_47 dX12_set_70 rfl ?_
        refine g_aload_n (pc := 73) 0 rfl dX12_set_73 rfl ?_
        refine g_iload_n (pc := 74) 1 rfl dX12_set_74 rfl ?_
        refine g_iload_n (pc := 75) 2 rfl dX12_set_75 rfl ?_
        refine g_iconst (pc := 76) (v := 3) dX12_set_76 (by decide) ?_
        obtain ⟨p12, hp12, hf⟩ := am_bd hf
        refine g_cV (pc := 77) (As := [.int v1, .int v2, .int 3]) (st := [.ref (am_ad X 1324 0)]) (st1 := [.int p12, .ref (am_ad X 1324 0)]) (in_12 hX (by omega)) kk_12 mV_X12_cell ln_X12_252 rfl (Nat.le_of_ble_eq_true rfl) (Nat.le_of_ble_eq_true rfl) (k_X12_cell hX v1 v2 3 s11 hp12) dX12_set_77 rfl rfl ?_
        refine g_iload (pc := 80) 4 rfl dX12_set_80 ?_
        obtain ⟨j13, hj13, hf⟩ := am_bd hf
        have gj13 := am_ix_lt hj13
        obtain ⟨s14, hs14, hf⟩ := am_bd hf
        refine g_sI (pc := 82) (in_1324 hX (by omega)) ak_1324 hj13 dX12_set_82 (Option.some.inj hs14) ?_
        refine g_iconst (pc := 83) (v := 1) dX12_set_83 (by decide) ?_
        have ho := Option.some.inj hf
        subst ho
        exact g_zreturn (pc := 84) (st := []) (x := true) rfl dX12_set_84 hk
      replace hf := am_ifF c8 hf
      exact am_sub [0] rfl (q_X12_set_50 hX s2 hf hk)
    replace hf := am_ifF c6 hf
    exact am_sub [0] rfl (q_X12_set_50 hX s2 hf hk)
  replace hf := am_ifF c4 hf
  refine g_aload_n (pc := 19) 0 rfl dX12_set_19 rfl ?_
  refine g_iconst (pc := 20) (v := 2) dX12_set_20 (by decide) ?_
  obtain ⟨p15, hp15, hf⟩ := am_bd hf
  refine g_cV (pc := 21) (As := [.int 2]) (st := []) (st1 := [.int (am_b p15.1)]) (in_12 hX (by omega)) kk_12 mV_X12_no ln_X12_137 rfl (Nat.le_of_ble_eq_true rfl) (Nat.le_of_ble_eq_true rfl) (k_X12_no hX 2 s2 hp15) dX12_set_21 rfl rfl ?_
  have ho := Option.some.inj hf
  subst ho
  exact g_zreturn (pc := 24) (st := []) (x := p15.1) rfl dX12_set_24 hk
theorem k_X12_set {X : am_X} (hX : am_ks X = am_ksM) (v1 : Int32) (v2 : Int32) (v3 : Int32) (v4 : Int32) (σ : am_H) {o : Bool × am_H} (hf : f_X12_set v1 v2 v3 v4 σ = some o) : am_C X gm_X12_set [.ref (am_ad X 12 0), .int v1, .int v2, .int v3, .int v4] σ (am_is (some (.int (am_b o.1))) o.2) :=
  am_ofG rfl (Nat.le_of_ble_eq_true rfl) rfl (q_X12_set hX v1 v2 v3 v4 σ hf ⟨rfl, rfl⟩)
theorem dX12_cosine_0 : decode cX12_cosine 0 = .ok (.iload_n 0, 1) := by decide +kernel
theorem dX12_cosine_1 : decode cX12_cosine 1 = .ok (.bipush 12, 2) := by decide +kernel
theorem dX12_cosine_3 : decode cX12_cosine 3 = .ok (.if_icmp .le 10, 3) := by decide +kernel
theorem dX12_cosine_6 : decode cX12_cosine 6 = .ok (.bipush 24, 2) := by decide +kernel
theorem dX12_cosine_8 : decode cX12_cosine 8 = .ok (.iload_n 0, 1) := by decide +kernel
theorem dX12_cosine_9 : decode cX12_cosine 9 = .ok (.isub, 1) := by decide +kernel
theorem dX12_cosine_10 : decode cX12_cosine 10 = .ok (.goto 4, 3) := by decide +kernel
theorem dX12_cosine_13 : decode cX12_cosine 13 = .ok (.iload_n 0, 1) := by decide +kernel
theorem dX12_cosine_14 : decode cX12_cosine 14 = .ok (.istore_n 1, 1) := by decide +kernel
theorem dX12_cosine_15 : decode cX12_cosine 15 = .ok (.iload_n 1, 1) := by decide +kernel
theorem dX12_cosine_16 : decode cX12_cosine 16 = .ok (.tableswitch 91 0 10 #[60, 63, 66, 69, 72, 75, 77, 79, 82, 85, 88], 60) := by decide +kernel
theorem dX12_cosine_76 : decode cX12_cosine 76 = .ok (.bipush 12, 2) := by decide +kernel
theorem dX12_cosine_78 : decode cX12_cosine 78 = .ok (.ireturn, 1) := by decide +kernel
theorem dX12_cosine_79 : decode cX12_cosine 79 = .ok (.bipush 12, 2) := by decide +kernel
theorem dX12_cosine_81 : decode cX12_cosine 81 = .ok (.ireturn, 1) := by decide +kernel
theorem dX12_cosine_82 : decode cX12_cosine 82 = .ok (.bipush 10, 2) := by decide +kernel
theorem dX12_cosine_84 : decode cX12_cosine 84 = .ok (.ireturn, 1) := by decide +kernel
theorem dX12_cosine_85 : decode cX12_cosine 85 = .ok (.bipush 8, 2) := by decide +kernel
theorem dX12_cosine_87 : decode cX12_cosine 87 = .ok (.ireturn, 1) := by decide +kernel
theorem dX12_cosine_88 : decode cX12_cosine 88 = .ok (.bipush 6, 2) := by decide +kernel
theorem dX12_cosine_90 : decode cX12_cosine 90 = .ok (.ireturn, 1) := by decide +kernel
theorem dX12_cosine_91 : decode cX12_cosine 91 = .ok (.iconst 3, 1) := by decide +kernel
theorem dX12_cosine_92 : decode cX12_cosine 92 = .ok (.ireturn, 1) := by decide +kernel
theorem dX12_cosine_93 : decode cX12_cosine 93 = .ok (.iconst 0, 1) := by decide +kernel
theorem dX12_cosine_94 : decode cX12_cosine 94 = .ok (.ireturn, 1) := by decide +kernel
theorem dX12_cosine_95 : decode cX12_cosine 95 = .ok (.bipush (-3), 2) := by decide +kernel
theorem dX12_cosine_97 : decode cX12_cosine 97 = .ok (.ireturn, 1) := by decide +kernel
theorem dX12_cosine_98 : decode cX12_cosine 98 = .ok (.bipush (-6), 2) := by decide +kernel
theorem dX12_cosine_100 : decode cX12_cosine 100 = .ok (.ireturn, 1) := by decide +kernel
theorem dX12_cosine_101 : decode cX12_cosine 101 = .ok (.bipush (-8), 2) := by decide +kernel
theorem dX12_cosine_103 : decode cX12_cosine 103 = .ok (.ireturn, 1) := by decide +kernel
theorem dX12_cosine_104 : decode cX12_cosine 104 = .ok (.bipush (-10), 2) := by decide +kernel
theorem dX12_cosine_106 : decode cX12_cosine 106 = .ok (.ireturn, 1) := by decide +kernel
theorem dX12_cosine_107 : decode cX12_cosine 107 = .ok (.bipush (-12), 2) := by decide +kernel
theorem dX12_cosine_109 : decode cX12_cosine 109 = .ok (.ireturn, 1) := by decide +kernel
noncomputable def f_X12_cosine_14 (k0 : Int32) (σ : am_H) : Option (Int32) :=
  if k0 = 0 then
   (some 12)
  else
  if k0 = 1 then
   (some 12)
  else
  if k0 = 2 then
   (some 10)
  else
  if k0 = 3 then
   (some 8)
  else
  if k0 = 4 then
   (some 6)
  else
  if k0 = 5 then
   (some 3)
  else
  if k0 = 6 then
   (some 0)
  else
  if k0 = 7 then
   (some (-3))
  else
  if k0 = 8 then
   (some (-6))
  else
  if k0 = 9 then
   (some (-8))
  else
  if k0 = 10 then
   (some (-10))
  else
  some (-12)
set_option maxRecDepth 100000 in
set_option maxHeartbeats 4000000 in
theorem q_X12_cosine_14 {X : am_X} (hX : am_ks X = am_ksM) {Q : Option Value → am_H → Prop} (k0 : Int32) (σ : am_H) {o : Int32} (hf : f_X12_cosine_14 k0 σ = some o) (hk : Q (some (.int o)) σ) : am_G X gm_X12_cosine Q 14 [] [.int k0] σ := by
  unfold f_X12_cosine_14 at hf
  refine g_istore_n (pc := 14) [(1, .int k0)] dX12_cosine_14 rfl (Nat.le_of_ble_eq_true rfl) rfl ?_
  refine g_iload_n (pc := 15) 0 rfl dX12_cosine_15 rfl ?_
  by_cases c1 : k0 = 0
  · replace hf := am_ifT c1 hf
    refine g_swE (pc := 16) 76 c1 dX12_cosine_16 (by decide) (by decide) rfl rfl ?_
    refine g_bipush (pc := 76) (v := 12) dX12_cosine_76 (by decide) ?_
    have ho := Option.some.inj hf
    subst ho
    exact g_ireturn (pc := 78) (st := []) rfl dX12_cosine_78 hk
  replace hf := am_ifF c1 hf
  by_cases c2 : k0 = 1
  · replace hf := am_ifT c2 hf
    refine g_swE (pc := 16) 79 c2 dX12_cosine_16 (by decide) (by decide) rfl rfl ?_
    refine g_bipush (pc := 79) (v := 12) dX12_cosine_79 (by decide) ?_
    have ho := Option.some.inj hf
    subst ho
    exact g_ireturn (pc := 81) (st := []) rfl dX12_cosine_81 hk
  replace hf := am_ifF c2 hf
  by_cases c3 : k0 = 2
  · replace hf := am_ifT c3 hf
    refine g_swE (pc := 16) 82 c3 dX12_cosine_16 (by decide) (by decide) rfl rfl ?_
    refine g_bipush (pc := 82) (v := 10) dX12_cosine_82 (by decide) ?_
    have ho := Option.some.inj hf
    subst ho
    exact g_ireturn (pc := 84) (st := []) rfl dX12_cosine_84 hk
  replace hf := am_ifF c3 hf
  by_cases c4 : k0 = 3
  · replace hf := am_ifT c4 hf
    refine g_swE (pc := 16) 85 c4 dX12_cosine_16 (by decide) (by decide) rfl rfl ?_
    refine g_bipush (pc := 85) (v := 8) dX12_cosine_85 (by decide) ?_
    have ho := Option.some.inj hf
    subst ho
    exact g_ireturn (pc := 87) (st := []) rfl dX12_cosine_87 hk
  replace hf := am_ifF c4 hf
  by_cases c5 : k0 = 4
  · replace hf := am_ifT c5 hf
    refine g_swE (pc := 16) 88 c5 dX12_cosine_16 (by decide) (by decide) rfl rfl ?_
    refine g_bipush (pc := 88) (v := 6) dX12_cosine_88 (by decide) ?_
    have ho := Option.some.inj hf
    subst ho
    exact g_ireturn (pc := 90) (st := []) rfl dX12_cosine_90 hk
  replace hf := am_ifF c5 hf
  by_cases c6 : k0 = 5
  · replace hf := am_ifT c6 hf
    refine g_swE (pc := 16) 91 c6 dX12_cosine_16 (by decide) (by decide) rfl rfl ?_
    refine g_iconst (pc := 91) (v := 3) dX12_cosine_91 (by decide) ?_
    have ho := Option.some.inj hf
    subst ho
    exact g_ireturn (pc := 92) (st := []) rfl dX12_cosine_92 hk
  replace hf := am_ifF c6 hf
  by_cases c7 : k0 = 6
  · replace hf := am_ifT c7 hf
    refine g_swE (pc := 16) 93 c7 dX12_cosine_16 (by decide) (by decide) rfl rfl ?_
    refine g_iconst (pc := 93) (v := 0) dX12_cosine_93 (by decide) ?_
    have ho := Option.some.inj hf
    subst ho
    exact g_ireturn (pc := 94) (st := []) rfl dX12_cosine_94 hk
  replace hf := am_ifF c7 hf
  by_cases c8 : k0 = 7
  · replace hf := am_ifT c8 hf
    refine g_swE (pc := 16) 95 c8 dX12_cosine_16 (by decide) (by decide) rfl rfl ?_
    refine g_bipush (pc := 95) (v := (-3)) dX12_cosine_95 (by decide) ?_
    have ho := Option.some.inj hf
    subst ho
    exact g_ireturn (pc := 97) (st := []) rfl dX12_cosine_97 hk
  replace hf := am_ifF c8 hf
  by_cases c9 : k0 = 8
  · replace hf := am_ifT c9 hf
    refine g_swE (pc := 16) 98 c9 dX12_cosine_16 (by decide) (by decide) rfl rfl ?_
    refine g_bipush (pc := 98) (v := (-6)) dX12_cosine_98 (by decide) ?_
    have ho := Option.some.inj hf
    subst ho
    exact g_ireturn (pc := 100) (st := []) rfl dX12_cosine_100 hk
  replace hf := am_ifF c9 hf
  by_cases c10 : k0 = 9
  · replace hf := am_ifT c10 hf
    refine g_swE (pc := 16) 101 c10 dX12_cosine_16 (by decide) (by decide) rfl rfl ?_
    refine g_bipush (pc := 101) (v := (-8)) dX12_cosine_101 (by decide) ?_
    have ho := Option.some.inj hf
    subst ho
    exact g_ireturn (pc := 103) (st := []) rfl dX12_cosine_103 hk
  replace hf := am_ifF c10 hf
  by_cases c11 : k0 = 10
  · replace hf := am_ifT c11 hf
    refine g_swE (pc := 16) 104 c11 dX12_cosine_16 (by decide) (by decide) rfl rfl ?_
    refine g_bipush (pc := 104) (v := (-10)) dX12_cosine_104 (by decide) ?_
    have ho := Option.some.inj hf
    subst ho
    exact g_ireturn (pc := 106) (st := []) rfl dX12_cosine_106 hk
  replace hf := am_ifF c11 hf
  refine g_tabO (pc := 16) 107 dX12_cosine_16 (am_sw_out 11 (by decide) ?_) rfl ?_
  · intro k hk
    rcases (by omega : k = 0 ∨ k = 1 ∨ k = 2 ∨ k = 3 ∨ k = 4 ∨ k = 5 ∨ k = 6 ∨ k = 7 ∨ k = 8 ∨ k = 9 ∨ k = 10) with rfl | rfl | rfl | rfl | rfl | rfl | rfl | rfl | rfl | rfl | rfl
    · exact c1
    · exact c2
    · exact c3
    · exact c4
    · exact c5
    · exact c6
    · exact c7
    · exact c8
    · exact c9
    · exact c10
    · exact c11
  refine g_bipush (pc := 107) (v := (-12)) dX12_cosine_107 (by decide) ?_
  have ho := Option.some.inj hf
  subst ho
  exact g_ireturn (pc := 109) (st := []) rfl dX12_cosine_109 hk
noncomputable def f_X12_cosine (v0 : Int32) (σ : am_H) : Option (Int32) :=
  if 12 < v0 then
   (f_X12_cosine_14 (24 - v0) σ)
  else
  f_X12_cosine_14 v0 σ
set_option maxRecDepth 100000 in
set_option maxHeartbeats 4000000 in
theorem q_X12_cosine {X : am_X} (hX : am_ks X = am_ksM) {Q : Option Value → am_H → Prop} (v0 : Int32) (σ : am_H) {o : Int32} (hf : f_X12_cosine v0 σ = some o) (hk : Q (some (.int o)) σ) : am_G X gm_X12_cosine Q 0 [(0, .int v0)] [] σ := by
  unfold f_X12_cosine at hf
  refine g_iload_n (pc := 0) 0 rfl dX12_cosine_0 rfl ?_
  refine g_bipush (pc := 1) (v := 12) dX12_cosine_1 (by decide) ?_
  refine bi_le (pc := 3) 13 dX12_cosine_3 rfl (fun c1 => ?_) (fun c1 => ?_)
  · replace hf := am_ifT c1 hf
    refine g_bipush (pc := 6) (v := 24) dX12_cosine_6 (by decide) ?_
    refine g_iload_n (pc := 8) 0 rfl dX12_cosine_8 rfl ?_
    refine g_isub (pc := 9) dX12_cosine_9 ?_
    refine g_goto (pc := 10) 14 dX12_cosine_10 rfl ?_
    exact am_sub [] rfl (q_X12_cosine_14 hX (24 - v0) σ hf hk)
  replace hf := am_ifF c1 hf
  refine g_iload_n (pc := 13) 0 rfl dX12_cosine_13 rfl ?_
  exact am_sub [] rfl (q_X12_cosine_14 hX v0 σ hf hk)
theorem k_X12_cosine {X : am_X} (hX : am_ks X = am_ksM) (v0 : Int32) (σ : am_H) {o : Int32} (hf : f_X12_cosine v0 σ = some o) : am_C X gm_X12_cosine [.int v0] σ (am_is (some (.int o)) σ) :=
  am_ofG rfl (Nat.le_of_ble_eq_true rfl) rfl (q_X12_cosine hX v0 σ hf ⟨rfl, rfl⟩)
theorem dX12_sine_0 : decode cX12_sine 0 = .ok (.iload_n 0, 1) := by decide +kernel
theorem dX12_sine_1 : decode cX12_sine 1 = .ok (.bipush 18, 2) := by decide +kernel
theorem dX12_sine_3 : decode cX12_sine 3 = .ok (.iadd, 1) := by decide +kernel
theorem dX12_sine_4 : decode cX12_sine 4 = .ok (.bipush 24, 2) := by decide +kernel
theorem dX12_sine_6 : decode cX12_sine 6 = .ok (.irem, 1) := by decide +kernel
theorem dX12_sine_7 : decode cX12_sine 7 = .ok (.invokestatic 313, 3) := by decide +kernel
theorem dX12_sine_10 : decode cX12_sine 10 = .ok (.ireturn, 1) := by decide +kernel
noncomputable def f_X12_sine (v0 : Int32) (σ : am_H) : Option (Int32) :=
  (f_X12_cosine (am_iR (v0 + 18) 24) σ).bind fun p1 =>
  some p1
set_option maxRecDepth 100000 in
set_option maxHeartbeats 4000000 in
theorem q_X12_sine {X : am_X} (hX : am_ks X = am_ksM) {Q : Option Value → am_H → Prop} (v0 : Int32) (σ : am_H) {o : Int32} (hf : f_X12_sine v0 σ = some o) (hk : Q (some (.int o)) σ) : am_G X gm_X12_sine Q 0 [(0, .int v0)] [] σ := by
  unfold f_X12_sine at hf
  refine g_iload_n (pc := 0) 0 rfl dX12_sine_0 rfl ?_
  refine g_bipush (pc := 1) (v := 18) dX12_sine_1 (by decide) ?_
  refine g_iadd (pc := 3) dX12_sine_3 ?_
  refine g_bipush (pc := 4) (v := 24) dX12_sine_4 (by decide) ?_
  refine g_irem (pc := 6) dX12_sine_6 (by decide) ?_
  obtain ⟨p1, hp1, hf⟩ := am_bd hf
  refine g_cS (pc := 7) (As := [.int (am_iR (v0 + 18) 24)]) (st := []) (st1 := [.int p1]) mS_X12_cosine ln_X12_313 rfl (Nat.le_of_ble_eq_true rfl) (Nat.le_of_ble_eq_true rfl) (k_X12_cosine hX (am_iR (v0 + 18) 24) σ hp1) dX12_sine_7 rfl rfl ?_
  have ho := Option.some.inj hf
  subst ho
  exact g_ireturn (pc := 10) (st := []) rfl dX12_sine_10 hk
theorem k_X12_sine {X : am_X} (hX : am_ks X = am_ksM) (v0 : Int32) (σ : am_H) {o : Int32} (hf : f_X12_sine v0 σ = some o) : am_C X gm_X12_sine [.int v0] σ (am_is (some (.int o)) σ) :=
  am_ofG rfl (Nat.le_of_ble_eq_true rfl) rfl (q_X12_sine hX v0 σ hf ⟨rfl, rfl⟩)
theorem dX12_trueFrom_0 : decode cX12_trueFrom 0 = .ok (.ldc2_w 316, 3) := by decide +kernel
theorem dX12_trueFrom_3 : decode cX12_trueFrom 3 = .ok (.aload_n 0, 1) := by decide +kernel
theorem dX12_trueFrom_4 : decode cX12_trueFrom 4 = .ok (.iload_n 1, 1) := by decide +kernel
theorem dX12_trueFrom_5 : decode cX12_trueFrom 5 = .ok (.iload_n 2, 1) := by decide +kernel
theorem dX12_trueFrom_6 : decode cX12_trueFrom 6 = .ok (.iconst 0, 1) := by decide +kernel
theorem dX12_trueFrom_7 : decode cX12_trueFrom 7 = .ok (.invokevirtual 297, 3) := by decide +kernel
theorem dX12_trueFrom_10 : decode cX12_trueFrom 10 = .ok (.i2l, 1) := by decide +kernel
theorem dX12_trueFrom_11 : decode cX12_trueFrom 11 = .ok (.lmul, 1) := by decide +kernel
theorem dX12_trueFrom_12 : decode cX12_trueFrom 12 = .ok (.iload_n 3, 1) := by decide +kernel
theorem dX12_trueFrom_13 : decode cX12_trueFrom 13 = .ok (.i2l, 1) := by decide +kernel
theorem dX12_trueFrom_14 : decode cX12_trueFrom 14 = .ok (.lmul, 1) := by decide +kernel
theorem dX12_trueFrom_15 : decode cX12_trueFrom 15 = .ok (.aload_n 0, 1) := by decide +kernel
theorem dX12_trueFrom_16 : decode cX12_trueFrom 16 = .ok (.iload_n 1, 1) := by decide +kernel
theorem dX12_trueFrom_17 : decode cX12_trueFrom 17 = .ok (.iload_n 2, 1) := by decide +kernel
theorem dX12_trueFrom_18 : decode cX12_trueFrom 18 = .ok (.iconst 1, 1) := by decide +kernel
theorem dX12_trueFrom_19 : decode cX12_trueFrom 19 = .ok (.invokevirtual 297, 3) := by decide +kernel
theorem dX12_trueFrom_22 : decode cX12_trueFrom 22 = .ok (.i2l, 1) := by decide +kernel
theorem dX12_trueFrom_23 : decode cX12_trueFrom 23 = .ok (.ldiv, 1) := by decide +kernel
theorem dX12_trueFrom_24 : decode cX12_trueFrom 24 = .ok (.ldc2_w 316, 3) := by decide +kernel
theorem dX12_trueFrom_27 : decode cX12_trueFrom 27 = .ok (.lrem, 1) := by decide +kernel
theorem dX12_trueFrom_28 : decode cX12_trueFrom 28 = .ok (.l2i, 1) := by decide +kernel
theorem dX12_trueFrom_29 : decode cX12_trueFrom 29 = .ok (.ireturn, 1) := by decide +kernel
noncomputable def f_X12_trueFrom (v1 : Int32) (v2 : Int32) (v3 : Int32) (σ : am_H) : Option (Int32) :=
  (f_X12_of v1 v2 0 σ).bind fun p1 =>
  (f_X12_of v1 v2 1 σ).bind fun p2 =>
  if (Int32.toInt64 p2) = 0 then none else
  some (Int64.toInt32 (am_lR (((24 * (Int32.toInt64 p1)) * (Int32.toInt64 v3)) / (Int32.toInt64 p2)) 24))
set_option maxRecDepth 100000 in
set_option maxHeartbeats 4000000 in
theorem q_X12_trueFrom {X : am_X} (hX : am_ks X = am_ksM) {Q : Option Value → am_H → Prop} (v1 : Int32) (v2 : Int32) (v3 : Int32) (σ : am_H) {o : Int32} (hf : f_X12_trueFrom v1 v2 v3 σ = some o) (hk : Q (some (.int o)) σ) : am_G X gm_X12_trueFrom Q 0 [(0, .ref (am_ad X 12 0)), (1, .int v1), (2, .int v2), (3, .int v3)] [] σ := by
  unfold f_X12_trueFrom at hf
  refine g_ldc2 (pc := 0) (v := 24) (tb_9 (List.mem_of_getElem? (i := 51) (by decide +kernel))) dX12_trueFrom_0 ?_
  refine g_aload_n (pc := 3) 0 rfl dX12_trueFrom_3 rfl ?_
  refine g_iload_n (pc := 4) 1 rfl dX12_trueFrom_4 rfl ?_
  refine g_iload_n (pc := 5) 2 rfl dX12_trueFrom_5 rfl ?_
  refine g_iconst (pc := 6) (v := 0) dX12_trueFrom_6 (by decide) ?_
  obtain ⟨p1, hp1, hf⟩ := am_bd hf
  refine g_cV (pc := 7) (As := [.int v1, .int v2, .int 0]) (st := [.long 24]) (st1 := [.int p1, .long 24]) (in_12 hX (by omega)) kk_12 mV_X12_of ln_X12_297 rfl (Nat.le_of_ble_eq_true rfl) (Nat.le_of_ble_eq_true rfl) (k_X12_of hX v1 v2 0 σ hp1) dX12_trueFrom_7 rfl rfl ?_
  refine g_i2l (pc := 10) dX12_trueFrom_10 ?_
  refine g_lmul (pc := 11) dX12_trueFrom_11 ?_
  refine g_iload_n (pc := 12) 3 rfl dX12_trueFrom_12 rfl ?_
  refine g_i2l (pc := 13) dX12_trueFrom_13 ?_
  refine g_lmul (pc := 14) dX12_trueFrom_14 ?_
  refine g_aload_n (pc := 15) 0 rfl dX12_trueFrom_15 rfl ?_
  refine g_iload_n (pc := 16) 1 rfl dX12_trueFrom_16 rfl ?_
  refine g_iload_n (pc := 17) 2 rfl dX12_trueFrom_17 rfl ?_
  refine g_iconst (pc := 18) (v := 1) dX12_trueFrom_18 (by decide) ?_
  obtain ⟨p2, hp2, hf⟩ := am_bd hf
  refine g_cV (pc := 19) (As := [.int v1, .int v2, .int 1]) (st := [.long ((24 * (Int32.toInt64 p1)) * (Int32.toInt64 v3))]) (st1 := [.int p2, .long ((24 * (Int32.toInt64 p1)) * (Int32.toInt64 v3))]) (in_12 hX (by omega)) kk_12 mV_X12_of ln_X12_297 rfl (Nat.le_of_ble_eq_true rfl) (Nat.le_of_ble_eq_true rfl) (k_X12_of hX v1 v2 1 σ hp2) dX12_trueFrom_19 rfl rfl ?_
  refine g_i2l (pc := 22) dX12_trueFrom_22 ?_
  by_cases z3 : (Int32.toInt64 p2) = 0
  · exact absurd (am_ifT z3 hf) (by simp)
  replace hf := am_ifF z3 hf
  refine g_ldiv (pc := 23) dX12_trueFrom_23 z3 ?_
  refine g_ldc2 (pc := 24) (v := 24) (tb_9 (List.mem_of_getElem? (i := 51) (by decide +kernel))) dX12_trueFrom_24 ?_
  refine g_lrem (pc := 27) dX12_trueFrom_27 (by decide) ?_
  refine g_l2i (pc := 28) dX12_trueFrom_28 ?_
  have ho := Option.some.inj hf
  subst ho
  exact g_ireturn (pc := 29) (st := []) rfl dX12_trueFrom_29 hk
theorem k_X12_trueFrom {X : am_X} (hX : am_ks X = am_ksM) (v1 : Int32) (v2 : Int32) (v3 : Int32) (σ : am_H) {o : Int32} (hf : f_X12_trueFrom v1 v2 v3 σ = some o) : am_C X gm_X12_trueFrom [.ref (am_ad X 12 0), .int v1, .int v2, .int v3] σ (am_is (some (.int o)) σ) :=
  am_ofG rfl (Nat.le_of_ble_eq_true rfl) rfl (q_X12_trueFrom hX v1 v2 v3 σ hf ⟨rfl, rfl⟩)
theorem dX12_truePlace_0 : decode cX12_truePlace 0 = .ok (.aload_n 0, 1) := by decide +kernel
theorem dX12_truePlace_1 : decode cX12_truePlace 1 = .ok (.iload_n 1, 1) := by decide +kernel
theorem dX12_truePlace_2 : decode cX12_truePlace 2 = .ok (.iload_n 2, 1) := by decide +kernel
theorem dX12_truePlace_3 : decode cX12_truePlace 3 = .ok (.iload_n 3, 1) := by decide +kernel
theorem dX12_truePlace_4 : decode cX12_truePlace 4 = .ok (.invokevirtual 318, 3) := by decide +kernel
theorem dX12_truePlace_7 : decode cX12_truePlace 7 = .ok (.aload_n 0, 1) := by decide +kernel
theorem dX12_truePlace_8 : decode cX12_truePlace 8 = .ok (.iload_n 1, 1) := by decide +kernel
theorem dX12_truePlace_9 : decode cX12_truePlace 9 = .ok (.iload_n 2, 1) := by decide +kernel
theorem dX12_truePlace_10 : decode cX12_truePlace 10 = .ok (.iconst 3, 1) := by decide +kernel
theorem dX12_truePlace_11 : decode cX12_truePlace 11 = .ok (.invokevirtual 297, 3) := by decide +kernel
theorem dX12_truePlace_14 : decode cX12_truePlace 14 = .ok (.iadd, 1) := by decide +kernel
theorem dX12_truePlace_15 : decode cX12_truePlace 15 = .ok (.bipush 24, 2) := by decide +kernel
theorem dX12_truePlace_17 : decode cX12_truePlace 17 = .ok (.irem, 1) := by decide +kernel
theorem dX12_truePlace_18 : decode cX12_truePlace 18 = .ok (.ireturn, 1) := by decide +kernel
noncomputable def f_X12_truePlace (v1 : Int32) (v2 : Int32) (v3 : Int32) (σ : am_H) : Option (Int32) :=
  (f_X12_trueFrom v1 v2 v3 σ).bind fun p1 =>
  (f_X12_of v1 v2 3 σ).bind fun p2 =>
  some (am_iR (p1 + p2) 24)
set_option maxRecDepth 100000 in
set_option maxHeartbeats 4000000 in
theorem q_X12_truePlace {X : am_X} (hX : am_ks X = am_ksM) {Q : Option Value → am_H → Prop} (v1 : Int32) (v2 : Int32) (v3 : Int32) (σ : am_H) {o : Int32} (hf : f_X12_truePlace v1 v2 v3 σ = some o) (hk : Q (some (.int o)) σ) : am_G X gm_X12_truePlace Q 0 [(0, .ref (am_ad X 12 0)), (1, .int v1), (2, .int v2), (3, .int v3)] [] σ := by
  unfold f_X12_truePlace at hf
  refine g_aload_n (pc := 0) 0 rfl dX12_truePlace_0 rfl ?_
  refine g_iload_n (pc := 1) 1 rfl dX12_truePlace_1 rfl ?_
  refine g_iload_n (pc := 2) 2 rfl dX12_truePlace_2 rfl ?_
  refine g_iload_n (pc := 3) 3 rfl dX12_truePlace_3 rfl ?_
  obtain ⟨p1, hp1, hf⟩ := am_bd hf
  refine g_cV (pc := 4) (As := [.int v1, .int v2, .int v3]) (st := []) (st1 := [.int p1]) (in_12 hX (by omega)) kk_12 mV_X12_trueFrom ln_X12_318 rfl (Nat.le_of_ble_eq_true rfl) (Nat.le_of_ble_eq_true rfl) (k_X12_trueFrom hX v1 v2 v3 σ hp1) dX12_truePlace_4 rfl rfl ?_
  refine g_aload_n (pc := 7) 0 rfl dX12_truePlace_7 rfl ?_
  refine g_iload_n (pc := 8) 1 rfl dX12_truePlace_8 rfl ?_
  refine g_iload_n (pc := 9) 2 rfl dX12_truePlace_9 rfl ?_
  refine g_iconst (pc := 10) (v := 3) dX12_truePlace_10 (by decide) ?_
  obtain ⟨p2, hp2, hf⟩ := am_bd hf
  refine g_cV (pc := 11) (As := [.int v1, .int v2, .int 3]) (st := [.int p1]) (st1 := [.int p2, .int p1]) (in_12 hX (by omega)) kk_12 mV_X12_of ln_X12_297 rfl (Nat.le_of_ble_eq_true rfl) (Nat.le_of_ble_eq_true rfl) (k_X12_of hX v1 v2 3 σ hp2) dX12_truePlace_11 rfl rfl ?_
  refine g_iadd (pc := 14) dX12_truePlace_14 ?_
  refine g_bipush (pc := 15) (v := 24) dX12_truePlace_15 (by decide) ?_
  refine g_irem (pc := 17) dX12_truePlace_17 (by decide) ?_
  have ho := Option.some.inj hf
  subst ho
  exact g_ireturn (pc := 18) (st := []) rfl dX12_truePlace_18 hk
theorem k_X12_truePlace {X : am_X} (hX : am_ks X = am_ksM) (v1 : Int32) (v2 : Int32) (v3 : Int32) (σ : am_H) {o : Int32} (hf : f_X12_truePlace v1 v2 v3 σ = some o) : am_C X gm_X12_truePlace [.ref (am_ad X 12 0), .int v1, .int v2, .int v3] σ (am_is (some (.int o)) σ) :=
  am_ofG rfl (Nat.le_of_ble_eq_true rfl) rfl (q_X12_truePlace hX v1 v2 v3 σ hf ⟨rfl, rfl⟩)
theorem dX12_turnedPlace_0 : decode cX12_turnedPlace 0 = .ok (.aload_n 0, 1) := by decide +kernel
theorem dX12_turnedPlace_1 : decode cX12_turnedPlace 1 = .ok (.iload_n 1, 1) := by decide +kernel
theorem dX12_turnedPlace_2 : decode cX12_turnedPlace 2 = .ok (.iload_n 2, 1) := by decide +kernel
theorem dX12_turnedPlace_3 : decode cX12_turnedPlace 3 = .ok (.invokevirtual 306, 3) := by decide +kernel
theorem dX12_turnedPlace_6 : decode cX12_turnedPlace 6 = .ok (.ifCond .ne 11, 3) := by decide +kernel
theorem dX12_turnedPlace_9 : decode cX12_turnedPlace 9 = .ok (.aload_n 0, 1) := by decide +kernel
theorem dX12_turnedPlace_10 : decode cX12_turnedPlace 10 = .ok (.iload_n 1, 1) := by decide +kernel
theorem dX12_turnedPlace_11 : decode cX12_turnedPlace 11 = .ok (.iload_n 2, 1) := by decide +kernel
theorem dX12_turnedPlace_12 : decode cX12_turnedPlace 12 = .ok (.iload_n 3, 1) := by decide +kernel
theorem dX12_turnedPlace_13 : decode cX12_turnedPlace 13 = .ok (.invokevirtual 321, 3) := by decide +kernel
theorem dX12_turnedPlace_16 : decode cX12_turnedPlace 16 = .ok (.ireturn, 1) := by decide +kernel
theorem dX12_turnedPlace_17 : decode cX12_turnedPlace 17 = .ok (.aload_n 0, 1) := by decide +kernel
theorem dX12_turnedPlace_18 : decode cX12_turnedPlace 18 = .ok (.iload_n 1, 1) := by decide +kernel
theorem dX12_turnedPlace_19 : decode cX12_turnedPlace 19 = .ok (.iload_n 2, 1) := by decide +kernel
theorem dX12_turnedPlace_20 : decode cX12_turnedPlace 20 = .ok (.iconst 5, 1) := by decide +kernel
theorem dX12_turnedPlace_21 : decode cX12_turnedPlace 21 = .ok (.invokevirtual 297, 3) := by decide +kernel
theorem dX12_turnedPlace_24 : decode cX12_turnedPlace 24 = .ok (.i2l, 1) := by decide +kernel
theorem dX12_turnedPlace_25 : decode cX12_turnedPlace 25 = .ok (.aload_n 0, 1) := by decide +kernel
theorem dX12_turnedPlace_26 : decode cX12_turnedPlace 26 = .ok (.iload_n 1, 1) := by decide +kernel
theorem dX12_turnedPlace_27 : decode cX12_turnedPlace 27 = .ok (.iload_n 2, 1) := by decide +kernel
theorem dX12_turnedPlace_28 : decode cX12_turnedPlace 28 = .ok (.bipush 7, 2) := by decide +kernel
theorem dX12_turnedPlace_30 : decode cX12_turnedPlace 30 = .ok (.invokevirtual 297, 3) := by decide +kernel
theorem dX12_turnedPlace_33 : decode cX12_turnedPlace 33 = .ok (.i2l, 1) := by decide +kernel
theorem dX12_turnedPlace_34 : decode cX12_turnedPlace 34 = .ok (.lmul, 1) := by decide +kernel
theorem dX12_turnedPlace_35 : decode cX12_turnedPlace 35 = .ok (.lstore 4, 2) := by decide +kernel
theorem dX12_turnedPlace_37 : decode cX12_turnedPlace 37 = .ok (.aload_n 0, 1) := by decide +kernel
theorem dX12_turnedPlace_38 : decode cX12_turnedPlace 38 = .ok (.iload_n 1, 1) := by decide +kernel
theorem dX12_turnedPlace_39 : decode cX12_turnedPlace 39 = .ok (.iload_n 2, 1) := by decide +kernel
theorem dX12_turnedPlace_40 : decode cX12_turnedPlace 40 = .ok (.bipush 6, 2) := by decide +kernel
theorem dX12_turnedPlace_42 : decode cX12_turnedPlace 42 = .ok (.invokevirtual 297, 3) := by decide +kernel
theorem dX12_turnedPlace_45 : decode cX12_turnedPlace 45 = .ok (.i2l, 1) := by decide +kernel
theorem dX12_turnedPlace_46 : decode cX12_turnedPlace 46 = .ok (.aload_n 0, 1) := by decide +kernel
theorem dX12_turnedPlace_47 : decode cX12_turnedPlace 47 = .ok (.iload_n 1, 1) := by decide +kernel
theorem dX12_turnedPlace_48 : decode cX12_turnedPlace 48 = .ok (.iload_n 2, 1) := by decide +kernel
theorem dX12_turnedPlace_49 : decode cX12_turnedPlace 49 = .ok (.bipush 8, 2) := by decide +kernel
theorem dX12_turnedPlace_51 : decode cX12_turnedPlace 51 = .ok (.invokevirtual 297, 3) := by decide +kernel
theorem dX12_turnedPlace_54 : decode cX12_turnedPlace 54 = .ok (.i2l, 1) := by decide +kernel
theorem dX12_turnedPlace_55 : decode cX12_turnedPlace 55 = .ok (.lmul, 1) := by decide +kernel
theorem dX12_turnedPlace_56 : decode cX12_turnedPlace 56 = .ok (.lstore 6, 2) := by decide +kernel
theorem dX12_turnedPlace_58 : decode cX12_turnedPlace 58 = .ok (.iload_n 3, 1) := by decide +kernel
theorem dX12_turnedPlace_59 : decode cX12_turnedPlace 59 = .ok (.i2l, 1) := by decide +kernel
theorem dX12_turnedPlace_60 : decode cX12_turnedPlace 60 = .ok (.lload 4, 2) := by decide +kernel
theorem dX12_turnedPlace_62 : decode cX12_turnedPlace 62 = .ok (.lmul, 1) := by decide +kernel
theorem dX12_turnedPlace_63 : decode cX12_turnedPlace 63 = .ok (.lload 6, 2) := by decide +kernel
theorem dX12_turnedPlace_65 : decode cX12_turnedPlace 65 = .ok (.ldiv, 1) := by decide +kernel
theorem dX12_turnedPlace_66 : decode cX12_turnedPlace 66 = .ok (.aload_n 0, 1) := by decide +kernel
theorem dX12_turnedPlace_67 : decode cX12_turnedPlace 67 = .ok (.iload_n 1, 1) := by decide +kernel
theorem dX12_turnedPlace_68 : decode cX12_turnedPlace 68 = .ok (.iload_n 2, 1) := by decide +kernel
theorem dX12_turnedPlace_69 : decode cX12_turnedPlace 69 = .ok (.iconst 3, 1) := by decide +kernel
theorem dX12_turnedPlace_70 : decode cX12_turnedPlace 70 = .ok (.invokevirtual 297, 3) := by decide +kernel
theorem dX12_turnedPlace_73 : decode cX12_turnedPlace 73 = .ok (.i2l, 1) := by decide +kernel
theorem dX12_turnedPlace_74 : decode cX12_turnedPlace 74 = .ok (.ladd, 1) := by decide +kernel
theorem dX12_turnedPlace_75 : decode cX12_turnedPlace 75 = .ok (.ldc2_w 316, 3) := by decide +kernel
theorem dX12_turnedPlace_78 : decode cX12_turnedPlace 78 = .ok (.lrem, 1) := by decide +kernel
theorem dX12_turnedPlace_79 : decode cX12_turnedPlace 79 = .ok (.l2i, 1) := by decide +kernel
theorem dX12_turnedPlace_80 : decode cX12_turnedPlace 80 = .ok (.ireturn, 1) := by decide +kernel
noncomputable def f_X12_turnedPlace (v1 : Int32) (v2 : Int32) (v3 : Int32) (σ : am_H) : Option (Int32) :=
  (f_X12_hasTrain v1 v2 σ).bind fun p1 =>
  if p1 = true then
   ((f_X12_of v1 v2 5 σ).bind fun p3 =>
   (f_X12_of v1 v2 7 σ).bind fun p4 =>
   (f_X12_of v1 v2 6 σ).bind fun p5 =>
   (f_X12_of v1 v2 8 σ).bind fun p6 =>
   if ((Int32.toInt64 p5) * (Int32.toInt64 p6)) = 0 then none else
   (f_X12_of v1 v2 3 σ).bind fun p8 =>
   some (Int64.toInt32 (am_lR ((((Int32.toInt64 v3) * ((Int32.toInt64 p3) * (Int32.toInt64 p4))) / ((Int32.toInt64 p5) * (Int32.toInt64 p6))) + (Int32.toInt64 p8)) 24)))
  else
  (f_X12_truePlace v1 v2 v3 σ).bind fun p9 =>
  some p9
set_option maxRecDepth 100000 in
set_option maxHeartbeats 4000000 in
theorem q_X12_turnedPlace {X : am_X} (hX : am_ks X = am_ksM) {Q : Option Value → am_H → Prop} (v1 : Int32) (v2 : Int32) (v3 : Int32) (σ : am_H) {o : Int32} (hf : f_X12_turnedPlace v1 v2 v3 σ = some o) (hk : Q (some (.int o)) σ) : am_G X gm_X12_turnedPlace Q 0 [(0, .ref (am_ad X 12 0)), (1, .int v1), (2, .int v2), (3, .int v3)] [] σ := by
  unfold f_X12_turnedPlace at hf
  refine g_aload_n (pc := 0) 0 rfl dX12_turnedPlace_0 rfl ?_
  refine g_iload_n (pc := 1) 1 rfl dX12_turnedPlace_1 rfl ?_
  refine g_iload_n (pc := 2) 2 rfl dX12_turnedPlace_2 rfl ?_
  obtain ⟨p1, hp1, hf⟩ := am_bd hf
  refine g_cV (pc := 3) (As := [.int v1, .int v2]) (st := []) (st1 := [.int (am_b p1)]) (in_12 hX (by omega)) kk_12 mV_X12_hasTrain ln_X12_306 rfl (Nat.le_of_ble_eq_true rfl) (Nat.le_of_ble_eq_true rfl) (k_X12_hasTrain hX v1 v2 σ hp1) dX12_turnedPlace_3 rfl rfl ?_
  refine bt_ne (pc := 6) 17 dX12_turnedPlace_6 rfl (fun c2 => ?_) (fun c2 => ?_)
  · replace hf := am_ifT c2 hf
    refine g_aload_n (pc := 17) 0 rfl dX12_turnedPlace_17 rfl ?_
    refine g_iload_n (pc := 18) 1 rfl dX12_turnedPlace_18 rfl ?_
    refine g_iload_n (pc := 19) 2 rfl dX12_turnedPlace_19 rfl ?_
    refine g_iconst (pc := 20) (v := 5) dX12_turnedPlace_20 (by decide) ?_
    obtain ⟨p3, hp3, hf⟩ := am_bd hf
    refine g_cV (pc := 21) (As := [.int v1, .int v2, .int 5]) (st := []) (st1 := [.int p3]) (in_12 hX (by omega)) kk_12 mV_X12_of ln_X12_297 rfl (Nat.le_of_ble_eq_true rfl) (Nat.le_of_ble_eq_true rfl) (k_X12_of hX v1 v2 5 σ hp3) dX12_turnedPlace_21 rfl rfl ?_
    refine g_i2l (pc := 24) dX12_turnedPlace_24 ?_
    refine g_aload_n (pc := 25) 0 rfl dX12_turnedPlace_25 rfl ?_
    refine g_iload_n (pc := 26) 1 rfl dX12_turnedPlace_26 rfl ?_
    refine g_iload_n (pc := 27) 2 rfl dX12_turnedPlace_27 rfl ?_
    refine g_bipush (pc := 28) (v := 7) dX12_turnedPlace_28 (by decide) ?_
    obtain ⟨p4, hp4, hf⟩ := am_bd hf
    refine g_cV (pc := 30) (As := [.int v1, .int v2, .int 7]) (st := [.long (Int32.toInt64 p3)]) (st1 := [.int p4, .long (Int32.toInt64 p3)]) (in_12 hX (by omega)) kk_12 mV_X12_of ln_X12_297 rfl (Nat.le_of_ble_eq_true rfl) (Nat.le_of_ble_eq_true rfl) (k_X12_of hX v1 v2 7 σ hp4) dX12_turnedPlace_30 rfl rfl ?_
    refine g_i2l (pc := 33) dX12_turnedPlace_33 ?_
    refine g_lmul (pc := 34) dX12_turnedPlace_34 ?_
    refine g_lstore (pc := 35) [(4, .long ((Int32.toInt64 p3) * (Int32.toInt64 p4))), (0, .ref (am_ad X 12 0)), (1, .int v1), (2, .int v2), (3, .int v3)] dX12_turnedPlace_35 (Nat.le_of_ble_eq_true rfl) rfl ?_
    refine g_aload_n (pc := 37) 1 rfl dX12_turnedPlace_37 rfl ?_
    refine g_iload_n (pc := 38) 2 rfl dX12_turnedPlace_38 rfl ?_
    refine g_iload_n (pc := 39) 3 rfl dX12_turnedPlace_39 rfl ?_
    refine g_bipush (pc := 40) (v := 6) dX12_turnedPlace_40 (by decide) ?_
    obtain ⟨p5, hp5, hf⟩ := am_bd hf
    refine g_cV (pc := 42) (As := [.int v1, .int v2, .int 6]) (st := []) (st1 := [.int p5]) (in_12 hX (by omega)) kk_12 mV_X12_of ln_X12_297 rfl (Nat.le_of_ble_eq_true rfl) (Nat.le_of_ble_eq_true rfl) (k_X12_of hX v1 v2 6 σ hp5) dX12_turnedPlace_42 rfl rfl ?_
    refine g_i2l (pc := 45) dX12_turnedPlace_45 ?_
    refine g_aload_n (pc := 46) 1 rfl dX12_turnedPlace_46 rfl ?_
    refine g_iload_n (pc := 47) 2 rfl dX12_turnedPlace_47 rfl ?_
    refine g_iload_n (pc := 48) 3 rfl dX12_turnedPlace_48 rfl ?_
    refine g_bipush (pc := 49) (v := 8) dX12_turnedPlace_49 (by decide) ?_
    obtain ⟨p6, hp6, hf⟩ := am_bd hf
    refine g_cV (pc := 51) (As := [.int v1, .int v2, .int 8]) (st := [.long (Int32.toInt64 p5)]) (st1 := [.int p6, .long (Int32.toInt64 p5)]) (in_12 hX (by omega)) kk_12 mV_X12_of ln_X12_297 rfl (Nat.le_of_ble_eq_true rfl) (Nat.le_of_ble_eq_true rfl) (k_X12_of hX v1 v2 8 σ hp6) dX12_turnedPlace_51 rfl rfl ?_
    refine g_i2l (pc := 54) dX12_turnedPlace_54 ?_
    refine g_lmul (pc := 55) dX12_turnedPlace_55 ?_
    refine g_lstore (pc := 56) [(6, .long ((Int32.toInt64 p5) * (Int32.toInt64 p6))), (4, .long ((Int32.toInt64 p3) * (Int32.toInt64 p4))), (0, .ref (am_ad X 12 0)), (1, .int v1), (2, .int v2), (3, .int v3)] dX12_turnedPlace_56 (Nat.le_of_ble_eq_true rfl) rfl ?_
    refine g_iload_n (pc := 58) 5 rfl dX12_turnedPlace_58 rfl ?_
    refine g_i2l (pc := 59) dX12_turnedPlace_59 ?_
    refine g_lload (pc := 60) 1 rfl dX12_turnedPlace_60 ?_
    refine g_lmul (pc := 62) dX12_turnedPlace_62 ?_
    refine g_lload (pc := 63) 0 rfl dX12_turnedPlace_63 ?_
    by_cases z7 : ((Int32.toInt64 p5) * (Int32.toInt64 p6)) = 0
    · exact absurd (am_ifT z7 hf) (by simp)
    replace hf := am_ifF z7 hf
    refine g_ldiv (pc := 65) dX12_turnedPlace_65 z7 ?_
    refine g_aload_n (pc := 66) 2 rfl dX12_turnedPlace_66 rfl ?_
    refine g_iload_n (pc := 67) 3 rfl dX12_turnedPlace_67 rfl ?_
    refine g_iload_n (pc := 68) 4 rfl dX12_turnedPlace_68 rfl ?_
    refine g_iconst (pc := 69) (v := 3) dX12_turnedPlace_69 (by decide) ?_
    obtain ⟨p8, hp8, hf⟩ := am_bd hf
    refine g_cV (pc := 70) (As := [.int v1, .int v2, .int 3]) (st := [.long (((Int32.toInt64 v3) * ((Int32.toInt64 p3) * (Int32.toInt64 p4))) / ((Int32.toInt64 p5) * (Int32.toInt64 p6)))]) (st1 := [.int p8, .long (((Int32.toInt64 v3) * ((Int32.toInt64 p3) * (Int32.toInt64 p4))) / ((Int32.toInt64 p5) * (Int32.toInt64 p6)))]) (in_12 hX (by omega)) kk_12 mV_X12_of ln_X12_297 rfl (Nat.le_of_ble_eq_true rfl) (Nat.le_of_ble_eq_true rfl) (k_X12_of hX v1 v2 3 σ hp8) dX12_turnedPlace_70 rfl rfl ?_
    refine g_i2l (pc := 73) dX12_turnedPlace_73 ?_
    refine g_ladd (pc := 74) dX12_turnedPlace_74 ?_
    refine g_ldc2 (pc := 75) (v := 24) (tb_9 (List.mem_of_getElem? (i := 51) (by decide +kernel))) dX12_turnedPlace_75 ?_
    refine g_lrem (pc := 78) dX12_turnedPlace_78 (by decide) ?_
    refine g_l2i (pc := 79) dX12_turnedPlace_79 ?_
    have ho := Option.some.inj hf
    subst ho
    exact g_ireturn (pc := 80) (st := []) rfl dX12_turnedPlace_80 hk
  replace hf := am_ifF c2 hf
  refine g_aload_n (pc := 9) 0 rfl dX12_turnedPlace_9 rfl ?_
  refine g_iload_n (pc := 10) 1 rfl dX12_turnedPlace_10 rfl ?_
  refine g_iload_n (pc := 11) 2 rfl dX12_turnedPlace_11 rfl ?_
  refine g_iload_n (pc := 12) 3 rfl dX12_turnedPlace_12 rfl ?_
  obtain ⟨p9, hp9, hf⟩ := am_bd hf
  refine g_cV (pc := 13) (As := [.int v1, .int v2, .int v3]) (st := []) (st1 := [.int p9]) (in_12 hX (by omega)) kk_12 mV_X12_truePlace ln_X12_321 rfl (Nat.le_of_ble_eq_true rfl) (Nat.le_of_ble_eq_true rfl) (k_X12_truePlace hX v1 v2 v3 σ hp9) dX12_turnedPlace_13 rfl rfl ?_
  have ho := Option.some.inj hf
  subst ho
  exact g_ireturn (pc := 16) (st := []) rfl dX12_turnedPlace_16 hk
theorem k_X12_turnedPlace {X : am_X} (hX : am_ks X = am_ksM) (v1 : Int32) (v2 : Int32) (v3 : Int32) (σ : am_H) {o : Int32} (hf : f_X12_turnedPlace v1 v2 v3 σ = some o) : am_C X gm_X12_turnedPlace [.ref (am_ad X 12 0), .int v1, .int v2, .int v3] σ (am_is (some (.int o)) σ) :=
  am_ofG rfl (Nat.le_of_ble_eq_true rfl) rfl (q_X12_turnedPlace hX v1 v2 v3 σ hf ⟨rfl, rfl⟩)
theorem dX12_placeOf_0 : decode cX12_placeOf 0 = .ok (.iload 4, 2) := by decide +kernel
theorem dX12_placeOf_2 : decode cX12_placeOf 2 = .ok (.ifCond .eq 13, 3) := by decide +kernel
theorem dX12_placeOf_5 : decode cX12_placeOf 5 = .ok (.aload_n 0, 1) := by decide +kernel
theorem dX12_placeOf_6 : decode cX12_placeOf 6 = .ok (.iload_n 1, 1) := by decide +kernel
theorem dX12_placeOf_7 : decode cX12_placeOf 7 = .ok (.iload_n 2, 1) := by decide +kernel
theorem dX12_placeOf_8 : decode cX12_placeOf 8 = .ok (.iload_n 3, 1) := by decide +kernel
theorem dX12_placeOf_9 : decode cX12_placeOf 9 = .ok (.invokevirtual 324, 3) := by decide +kernel
theorem dX12_placeOf_12 : decode cX12_placeOf 12 = .ok (.goto 10, 3) := by decide +kernel
theorem dX12_placeOf_15 : decode cX12_placeOf 15 = .ok (.aload_n 0, 1) := by decide +kernel
theorem dX12_placeOf_16 : decode cX12_placeOf 16 = .ok (.iload_n 1, 1) := by decide +kernel
theorem dX12_placeOf_17 : decode cX12_placeOf 17 = .ok (.iload_n 2, 1) := by decide +kernel
theorem dX12_placeOf_18 : decode cX12_placeOf 18 = .ok (.iload_n 3, 1) := by decide +kernel
theorem dX12_placeOf_19 : decode cX12_placeOf 19 = .ok (.invokevirtual 321, 3) := by decide +kernel
theorem dX12_placeOf_22 : decode cX12_placeOf 22 = .ok (.ireturn, 1) := by decide +kernel
noncomputable def f_X12_placeOf (v1 : Int32) (v2 : Int32) (v3 : Int32) (v4 : Bool) (σ : am_H) : Option (Int32) :=
  if v4 = true then
   ((f_X12_turnedPlace v1 v2 v3 σ).bind fun p2 =>
   some p2)
  else
  (f_X12_truePlace v1 v2 v3 σ).bind fun p3 =>
  some p3
set_option maxRecDepth 100000 in
set_option maxHeartbeats 4000000 in
theorem q_X12_placeOf {X : am_X} (hX : am_ks X = am_ksM) {Q : Option Value → am_H → Prop} (v1 : Int32) (v2 : Int32) (v3 : Int32) (v4 : Bool) (σ : am_H) {o : Int32} (hf : f_X12_placeOf v1 v2 v3 v4 σ = some o) (hk : Q (some (.int o)) σ) : am_G X gm_X12_placeOf Q 0 [(0, .ref (am_ad X 12 0)), (1, .int v1), (2, .int v2), (3, .int v3), (4, .int (am_b v4))] [] σ := by
  unfold f_X12_placeOf at hf
  refine g_iload (pc := 0) 4 rfl dX12_placeOf_0 ?_
  refine bt_eq (pc := 2) 15 dX12_placeOf_2 rfl (fun c1 => ?_) (fun c1 => ?_)
  · replace hf := am_ifT c1 hf
    refine g_aload_n (pc := 5) 0 rfl dX12_placeOf_5 rfl ?_
    refine g_iload_n (pc := 6) 1 rfl dX12_placeOf_6 rfl ?_
    refine g_iload_n (pc := 7) 2 rfl dX12_placeOf_7 rfl ?_
    refine g_iload_n (pc := 8) 3 rfl dX12_placeOf_8 rfl ?_
    obtain ⟨p2, hp2, hf⟩ := am_bd hf
    refine g_cV (pc := 9) (As := [.int v1, .int v2, .int v3]) (st := []) (st1 := [.int p2]) (in_12 hX (by omega)) kk_12 mV_X12_turnedPlace ln_X12_324 rfl (Nat.le_of_ble_eq_true rfl) (Nat.le_of_ble_eq_true rfl) (k_X12_turnedPlace hX v1 v2 v3 σ hp2) dX12_placeOf_9 rfl rfl ?_
    refine g_goto (pc := 12) 22 dX12_placeOf_12 rfl ?_
    have ho := Option.some.inj hf
    subst ho
    exact g_ireturn (pc := 22) (st := []) rfl dX12_placeOf_22 hk
  replace hf := am_ifF c1 hf
  refine g_aload_n (pc := 15) 0 rfl dX12_placeOf_15 rfl ?_
  refine g_iload_n (pc := 16) 1 rfl dX12_placeOf_16 rfl ?_
  refine g_iload_n (pc := 17) 2 rfl dX12_placeOf_17 rfl ?_
  refine g_iload_n (pc := 18) 3 rfl dX12_placeOf_18 rfl ?_
  obtain ⟨p3, hp3, hf⟩ := am_bd hf
  refine g_cV (pc := 19) (As := [.int v1, .int v2, .int v3]) (st := []) (st1 := [.int p3]) (in_12 hX (by omega)) kk_12 mV_X12_truePlace ln_X12_321 rfl (Nat.le_of_ble_eq_true rfl) (Nat.le_of_ble_eq_true rfl) (k_X12_truePlace hX v1 v2 v3 σ hp3) dX12_placeOf_19 rfl rfl ?_
  have ho := Option.some.inj hf
  subst ho
  exact g_ireturn (pc := 22) (st := []) rfl dX12_placeOf_22 hk
theorem k_X12_placeOf {X : am_X} (hX : am_ks X = am_ksM) (v1 : Int32) (v2 : Int32) (v3 : Int32) (v4 : Bool) (σ : am_H) {o : Int32} (hf : f_X12_placeOf v1 v2 v3 v4 σ = some o) : am_C X gm_X12_placeOf [.ref (am_ad X 12 0), .int v1, .int v2, .int v3, .int (am_b v4)] σ (am_is (some (.int o)) σ) :=
  am_ofG rfl (Nat.le_of_ble_eq_true rfl) rfl (q_X12_placeOf hX v1 v2 v3 v4 σ hf ⟨rfl, rfl⟩)
theorem dX12_heightOf_0 : decode cX12_heightOf 0 = .ok (.bipush 12, 2) := by decide +kernel
theorem dX12_heightOf_2 : decode cX12_heightOf 2 = .ok (.aload_n 0, 1) := by decide +kernel
theorem dX12_heightOf_3 : decode cX12_heightOf 3 = .ok (.getfield 44, 3) := by decide +kernel
theorem dX12_heightOf_6 : decode cX12_heightOf 6 = .ok (.iload_n 1, 1) := by decide +kernel
theorem dX12_heightOf_7 : decode cX12_heightOf 7 = .ok (.iaload, 1) := by decide +kernel
theorem dX12_heightOf_8 : decode cX12_heightOf 8 = .ok (.imul, 1) := by decide +kernel
theorem dX12_heightOf_9 : decode cX12_heightOf 9 = .ok (.istore 4, 2) := by decide +kernel
theorem dX12_heightOf_11 : decode cX12_heightOf 11 = .ok (.iconst 0, 1) := by decide +kernel
theorem dX12_heightOf_12 : decode cX12_heightOf 12 = .ok (.istore 5, 2) := by decide +kernel
theorem dX12_heightOf_14 : decode cX12_heightOf 14 = .ok (.iload 5, 2) := by decide +kernel
theorem dX12_heightOf_16 : decode cX12_heightOf 16 = .ok (.aload_n 0, 1) := by decide +kernel
theorem dX12_heightOf_17 : decode cX12_heightOf 17 = .ok (.getfield 35, 3) := by decide +kernel
theorem dX12_heightOf_20 : decode cX12_heightOf 20 = .ok (.iload_n 1, 1) := by decide +kernel
theorem dX12_heightOf_21 : decode cX12_heightOf 21 = .ok (.iaload, 1) := by decide +kernel
theorem dX12_heightOf_22 : decode cX12_heightOf 22 = .ok (.if_icmp .ge 35, 3) := by decide +kernel
theorem dX12_heightOf_25 : decode cX12_heightOf 25 = .ok (.iload 4, 2) := by decide +kernel
theorem dX12_heightOf_27 : decode cX12_heightOf 27 = .ok (.aload_n 0, 1) := by decide +kernel
theorem dX12_heightOf_28 : decode cX12_heightOf 28 = .ok (.iload_n 1, 1) := by decide +kernel
theorem dX12_heightOf_29 : decode cX12_heightOf 29 = .ok (.iload 5, 2) := by decide +kernel
theorem dX12_heightOf_31 : decode cX12_heightOf 31 = .ok (.iconst 2, 1) := by decide +kernel
theorem dX12_heightOf_32 : decode cX12_heightOf 32 = .ok (.invokevirtual 297, 3) := by decide +kernel
theorem dX12_heightOf_35 : decode cX12_heightOf 35 = .ok (.aload_n 0, 1) := by decide +kernel
theorem dX12_heightOf_36 : decode cX12_heightOf 36 = .ok (.iload_n 1, 1) := by decide +kernel
theorem dX12_heightOf_37 : decode cX12_heightOf 37 = .ok (.iload 5, 2) := by decide +kernel
theorem dX12_heightOf_39 : decode cX12_heightOf 39 = .ok (.iload_n 2, 1) := by decide +kernel
theorem dX12_heightOf_40 : decode cX12_heightOf 40 = .ok (.iload_n 3, 1) := by decide +kernel
theorem dX12_heightOf_41 : decode cX12_heightOf 41 = .ok (.invokevirtual 327, 3) := by decide +kernel
theorem dX12_heightOf_44 : decode cX12_heightOf 44 = .ok (.invokestatic 313, 3) := by decide +kernel
theorem dX12_heightOf_47 : decode cX12_heightOf 47 = .ok (.imul, 1) := by decide +kernel
theorem dX12_heightOf_48 : decode cX12_heightOf 48 = .ok (.iadd, 1) := by decide +kernel
theorem dX12_heightOf_49 : decode cX12_heightOf 49 = .ok (.istore 4, 2) := by decide +kernel
theorem dX12_heightOf_51 : decode cX12_heightOf 51 = .ok (.iinc 5 1, 3) := by decide +kernel
theorem dX12_heightOf_54 : decode cX12_heightOf 54 = .ok (.goto (-40), 3) := by decide +kernel
theorem dX12_heightOf_57 : decode cX12_heightOf 57 = .ok (.iload 4, 2) := by decide +kernel
theorem dX12_heightOf_59 : decode cX12_heightOf 59 = .ok (.ireturn, 1) := by decide +kernel
noncomputable def f_X12_heightOf_14 (v1 : Int32) (v2 : Int32) (v3 : Bool) (v4 : Int32) (v5 : Int32) (σ : am_H) : Option ((Int32 × Int32) ⊕ (Int32)) :=
  (am_ix 3 v1).bind fun j1 =>
  if v5 < (σ.1 1320 0 j1) then
   ((f_X12_of v1 v5 2 σ).bind fun p3 =>
   (f_X12_placeOf v1 v5 v2 v3 σ).bind fun p4 =>
   (f_X12_cosine p4 σ).bind fun p5 =>
   some (.inl ((v4 + (p3 * p5)), (v5 + 1))))
  else
  some (.inr v4)
set_option maxRecDepth 100000 in
set_option maxHeartbeats 4000000 in
theorem q_X12_heightOf_14 {X : am_X} (hX : am_ks X = am_ksM) {Q : Option Value → am_H → Prop} (v1 : Int32) (v2 : Int32) (v3 : Bool) (v4 : Int32) (v5 : Int32) (σ : am_H) {o : (Int32 × Int32) ⊕ (Int32)} (hf : f_X12_heightOf_14 v1 v2 v3 v4 v5 σ = some o) (hk0 : ∀ s, o = .inl s → am_G X gm_X12_heightOf Q 14 [(0, .ref (am_ad X 12 0)), (1, .int v1), (2, .int v2), (3, .int (am_b v3)), (4, .int s.1), (5, .int s.2)] [] σ) (hk1 : ∀ t, o = .inr t → am_G X gm_X12_heightOf Q 57 [(4, .int t)] [] σ) : am_G X gm_X12_heightOf Q 14 [(0, .ref (am_ad X 12 0)), (1, .int v1), (2, .int v2), (3, .int (am_b v3)), (4, .int v4), (5, .int v5)] [] σ := by
  unfold f_X12_heightOf_14 at hf
  refine g_iload (pc := 14) 5 rfl dX12_heightOf_14 ?_
  refine g_aload_n (pc := 16) 0 rfl dX12_heightOf_16 rfl ?_
  refine g_getC (pc := 17) (e := 0) (in_12 hX (by omega)) fr_X12_35 dX12_heightOf_17 rfl ?_
  refine g_iload_n (pc := 20) 1 rfl dX12_heightOf_20 rfl ?_
  obtain ⟨j1, hj1, hf⟩ := am_bd hf
  have gj1 := am_ix_lt hj1
  refine g_aI (pc := 21) (in_1320 hX (by omega)) ak_1320 hj1 dX12_heightOf_21 ?_
  refine bi_ge (pc := 22) 57 dX12_heightOf_22 rfl (fun c2 => ?_) (fun c2 => ?_)
  · replace hf := am_ifT c2 hf
    refine g_iload (pc := 25) 4 rfl dX12_heightOf_25 ?_
    refine g_aload_n (pc := 27) 0 rfl dX12_heightOf_27 rfl ?_
    refine g_iload_n (pc := 28) 1 rfl dX12_heightOf_28 rfl ?_
    refine g_iload (pc := 29) 5 rfl dX12_heightOf_29 ?_
    refine g_iconst (pc := 31) (v := 2) dX12_heightOf_31 (by decide) ?_
    obtain ⟨p3, hp3, hf⟩ := am_bd hf
    refine g_cV (pc := 32) (As := [.int v1, .int v5, .int 2]) (st := [.int v4]) (st1 := [.int p3, .int v4]) (in_12 hX (by omega)) kk_12 mV_X12_of ln_X12_297 rfl (Nat.le_of_ble_eq_true rfl) (Nat.le_of_ble_eq_true rfl) (k_X12_of hX v1 v5 2 σ hp3) dX12_heightOf_32 rfl rfl ?_
    refine g_aload_n (pc := 35) 0 rfl dX12_heightOf_35 rfl ?_
    refine g_iload_n (pc := 36) 1 rfl dX12_heightOf_36 rfl ?_
    refine g_iload (pc := 37) 5 rfl dX12_heightOf_37 ?_
    refine g_iload_n (pc := 39) 2 rfl dX12_heightOf_39 rfl ?_
    refine g_iload_n (pc := 40) 3 rfl dX12_heightOf_40 rfl ?_
    obtain ⟨p4, hp4, hf⟩ := am_bd hf
    refine g_cV (pc := 41) (As := [.int v1, .int v5, .int v2, .int (am_b v3)]) (st := [.int p3, .int v4]) (st1 := [.int p4, .int p3, .int v4]) (in_12 hX (by omega)) kk_12 mV_X12_placeOf ln_X12_327 rfl (Nat.le_of_ble_eq_true rfl) (Nat.le_of_ble_eq_true rfl) (k_X12_placeOf hX v1 v5 v2 v3 σ hp4) dX12_heightOf_41 rfl rfl ?_
    obtain ⟨p5, hp5, hf⟩ := am_bd hf
    refine g_cS (pc := 44) (As := [.int p4]) (st := [.int p3, .int v4]) (st1 := [.int p5, .int p3, .int v4]) mS_X12_cosine ln_X12_313 rfl (Nat.le_of_ble_eq_true rfl) (Nat.le_of_ble_eq_true rfl) (k_X12_cosine hX p4 σ hp5) dX12_heightOf_44 rfl rfl ?_
    refine g_imul (pc := 47) dX12_heightOf_47 ?_
    refine g_iadd (pc := 48) dX12_heightOf_48 ?_
    refine g_istore (pc := 49) [(4, .int (v4 + (p3 * p5))), (0, .ref (am_ad X 12 0)), (1, .int v1), (2, .int v2), (3, .int (am_b v3)), (5, .int v5)] dX12_heightOf_49 (Nat.le_of_ble_eq_true rfl) rfl ?_
    refine g_iinc (pc := 51) (v := (v5 + 1)) 5 [(5, .int (v5 + 1)), (4, .int (v4 + (p3 * p5))), (0, .ref (am_ad X 12 0)), (1, .int v1), (2, .int v2), (3, .int (am_b v3))] dX12_heightOf_51 rfl rfl (Nat.le_of_ble_eq_true rfl) rfl ?_
    refine g_goto (pc := 54) 14 dX12_heightOf_54 rfl ?_
    have hz := hk0 _ (Option.some.inj hf).symm
    exact am_sub [2, 3, 4, 5, 1, 0] rfl hz
  replace hf := am_ifF c2 hf
  have hz := hk1 _ (Option.some.inj hf).symm
  exact am_sub [4] rfl hz
set_option maxRecDepth 100000 in
set_option maxHeartbeats 4000000 in
theorem l_X12_heightOf_14 {X : am_X} (hX : am_ks X = am_ksM) {Q : Option Value → am_H → Prop} (v1 : Int32) (v2 : Int32) (v3 : Bool) (σ : am_H) (s : Int32 × Int32) {o : Int32} (hf : am_loop (fun s => f_X12_heightOf_14 v1 v2 v3 s.1 s.2 σ) s = some o) (hk1 : ∀ t, o = t → am_G X gm_X12_heightOf Q 57 [(4, .int t)] [] σ) : am_G X gm_X12_heightOf Q 14 [(0, .ref (am_ad X 12 0)), (1, .int v1), (2, .int v2), (3, .int (am_b v3)), (4, .int s.1), (5, .int s.2)] [] σ := by
  refine am_loop_ind (P := fun s => am_G X gm_X12_heightOf Q 14 [(0, .ref (am_ad X 12 0)), (1, .int v1), (2, .int v2), (3, .int (am_b v3)), (4, .int s.1), (5, .int s.2)] [] σ) (K := fun r => r = o) ?_ hf rfl
  intro s o1 hb hi hr
  exact q_X12_heightOf_14 hX v1 v2 v3 s.1 s.2  σ hb hi (fun t e => hk1 t (hr _ e).symm)
noncomputable def f_X12_heightOf (v1 : Int32) (v2 : Int32) (v3 : Bool) (σ : am_H) : Option (Int32) :=
  (am_ix 3 v1).bind fun j1 =>
  (am_loop (fun s => f_X12_heightOf_14 v1 v2 v3 s.1 s.2 σ) ((12 * (σ.1 1323 0 j1)), 0)).bind fun w2 =>
  some w2
set_option maxRecDepth 100000 in
set_option maxHeartbeats 4000000 in
theorem q_X12_heightOf {X : am_X} (hX : am_ks X = am_ksM) {Q : Option Value → am_H → Prop} (v1 : Int32) (v2 : Int32) (v3 : Bool) (σ : am_H) {o : Int32} (hf : f_X12_heightOf v1 v2 v3 σ = some o) (hk : Q (some (.int o)) σ) : am_G X gm_X12_heightOf Q 0 [(0, .ref (am_ad X 12 0)), (1, .int v1), (2, .int v2), (3, .int (am_b v3))] [] σ := by
  unfold f_X12_heightOf at hf
  refine g_bipush (pc := 0) (v := 12) dX12_heightOf_0 (by decide) ?_
  refine g_aload_n (pc := 2) 0 rfl dX12_heightOf_2 rfl ?_
  refine g_getC (pc := 3) (e := 0) (in_12 hX (by omega)) fr_X12_44 dX12_heightOf_3 rfl ?_
  refine g_iload_n (pc := 6) 1 rfl dX12_heightOf_6 rfl ?_
  obtain ⟨j1, hj1, hf⟩ := am_bd hf
  have gj1 := am_ix_lt hj1
  refine g_aI (pc := 7) (in_1323 hX (by omega)) ak_1323 hj1 dX12_heightOf_7 ?_
  refine g_imul (pc := 8) dX12_heightOf_8 ?_
  refine g_istore (pc := 9) [(4, .int (12 * (σ.1 1323 0 j1))), (0, .ref (am_ad X 12 0)), (1, .int v1), (2, .int v2), (3, .int (am_b v3))] dX12_heightOf_9 (Nat.le_of_ble_eq_true rfl) rfl ?_
  refine g_iconst (pc := 11) (v := 0) dX12_heightOf_11 (by decide) ?_
  refine g_istore (pc := 12) [(5, .int 0), (4, .int (12 * (σ.1 1323 0 j1))), (0, .ref (am_ad X 12 0)), (1, .int v1), (2, .int v2), (3, .int (am_b v3))] dX12_heightOf_12 (Nat.le_of_ble_eq_true rfl) rfl ?_
  obtain ⟨w2, hw2, hf⟩ := am_bd hf
  refine am_sub [2, 3, 4, 5, 1, 0] rfl (l_X12_heightOf_14 hX v1 v2 v3  σ ((12 * (σ.1 1323 0 j1)), 0) hw2 ?_)
  intro t e
  subst e
  refine g_iload (pc := 57) 0 rfl dX12_heightOf_57 ?_
  have ho := Option.some.inj hf
  subst ho
  exact g_ireturn (pc := 59) (st := []) rfl dX12_heightOf_59 hk
theorem k_X12_heightOf {X : am_X} (hX : am_ks X = am_ksM) (v1 : Int32) (v2 : Int32) (v3 : Bool) (σ : am_H) {o : Int32} (hf : f_X12_heightOf v1 v2 v3 σ = some o) : am_C X gm_X12_heightOf [.ref (am_ad X 12 0), .int v1, .int v2, .int (am_b v3)] σ (am_is (some (.int o)) σ) :=
  am_ofG rfl (Nat.le_of_ble_eq_true rfl) rfl (q_X12_heightOf hX v1 v2 v3 σ hf ⟨rfl, rfl⟩)
theorem dX12_place_0 : decode cX12_place 0 = .ok (.aload_n 0, 1) := by decide +kernel
theorem dX12_place_1 : decode cX12_place 1 = .ok (.iconst 0, 1) := by decide +kernel
theorem dX12_place_2 : decode cX12_place 2 = .ok (.putfield 122, 3) := by decide +kernel
theorem dX12_place_5 : decode cX12_place 5 = .ok (.aload_n 0, 1) := by decide +kernel
theorem dX12_place_6 : decode cX12_place 6 = .ok (.iconst 0, 1) := by decide +kernel
theorem dX12_place_7 : decode cX12_place 7 = .ok (.putfield 125, 3) := by decide +kernel
theorem dX12_place_10 : decode cX12_place 10 = .ok (.aload_n 0, 1) := by decide +kernel
theorem dX12_place_11 : decode cX12_place 11 = .ok (.iload_n 1, 1) := by decide +kernel
theorem dX12_place_12 : decode cX12_place 12 = .ok (.iload_n 2, 1) := by decide +kernel
theorem dX12_place_13 : decode cX12_place 13 = .ok (.invokevirtual 300, 3) := by decide +kernel
theorem dX12_place_16 : decode cX12_place 16 = .ok (.ifCond .ne 9, 3) := by decide +kernel
theorem dX12_place_19 : decode cX12_place 19 = .ok (.aload_n 0, 1) := by decide +kernel
theorem dX12_place_20 : decode cX12_place 20 = .ok (.iconst 2, 1) := by decide +kernel
theorem dX12_place_21 : decode cX12_place 21 = .ok (.invokevirtual 283, 3) := by decide +kernel
theorem dX12_place_24 : decode cX12_place 24 = .ok (.ireturn, 1) := by decide +kernel
theorem dX12_place_25 : decode cX12_place 25 = .ok (.iload_n 3, 1) := by decide +kernel
theorem dX12_place_26 : decode cX12_place 26 = .ok (.invokestatic 331, 3) := by decide +kernel
theorem dX12_place_29 : decode cX12_place 29 = .ok (.ifCond .eq 15, 3) := by decide +kernel
theorem dX12_place_32 : decode cX12_place 32 = .ok (.aload_n 0, 1) := by decide +kernel
theorem dX12_place_33 : decode cX12_place 33 = .ok (.iload_n 1, 1) := by decide +kernel
theorem dX12_place_34 : decode cX12_place 34 = .ok (.iload_n 2, 1) := by decide +kernel
theorem dX12_place_35 : decode cX12_place 35 = .ok (.iload_n 3, 1) := by decide +kernel
theorem dX12_place_36 : decode cX12_place 36 = .ok (.iload 4, 2) := by decide +kernel
theorem dX12_place_38 : decode cX12_place 38 = .ok (.invokevirtual 327, 3) := by decide +kernel
theorem dX12_place_41 : decode cX12_place 41 = .ok (.goto 8, 3) := by decide +kernel
theorem dX12_place_44 : decode cX12_place 44 = .ok (.aload_n 0, 1) := by decide +kernel
theorem dX12_place_45 : decode cX12_place 45 = .ok (.iconst 5, 1) := by decide +kernel
theorem dX12_place_46 : decode cX12_place 46 = .ok (.invokevirtual 283, 3) := by decide +kernel
theorem dX12_place_49 : decode cX12_place 49 = .ok (.ireturn, 1) := by decide +kernel
noncomputable def f_X12_place (v1 : Int32) (v2 : Int32) (v3 : Int32) (v4 : Bool) (σ : am_H) : Option (Int32 × am_H) :=
  (some (am_wI σ 12 0 1 0)).bind fun s1 =>
  (some (am_wI s1 12 0 0 0)).bind fun s2 =>
  (f_X12_isWaveOf v1 v2 s2).bind fun p3 =>
  if p3 = true then
   ((f_X12_isHour v3 s2).bind fun p5 =>
   if p5 = true then
    ((f_X12_placeOf v1 v2 v3 v4 s2).bind fun p7 =>
    some (p7, s2))
   else
   (f_X12_refuse 5 s2).bind fun p8 =>
   some (p8.1, p8.2))
  else
  (f_X12_refuse 2 s2).bind fun p9 =>
  some (p9.1, p9.2)
set_option maxRecDepth 100000 in
set_option maxHeartbeats 4000000 in
theorem q_X12_place {X : am_X} (hX : am_ks X = am_ksM) {Q : Option Value → am_H → Prop} (v1 : Int32) (v2 : Int32) (v3 : Int32) (v4 : Bool) (σ : am_H) {o : Int32 × am_H} (hf : f_X12_place v1 v2 v3 v4 σ = some o) (hk : Q (some (.int o.1)) o.2) : am_G X gm_X12_place Q 0 [(0, .ref (am_ad X 12 0)), (1, .int v1), (2, .int v2), (3, .int v3), (4, .int (am_b v4))] [] σ := by
  unfold f_X12_place at hf
  refine g_aload_n (pc := 0) 0 rfl dX12_place_0 rfl ?_
  refine g_iconst (pc := 1) (v := 0) dX12_place_1 (by decide) ?_
  obtain ⟨s1, hs1, hf⟩ := am_bd hf
  refine g_setI (pc := 2) (in_12 hX (by omega)) fr_X12_122 dX12_place_2 (Option.some.inj hs1) ?_
  refine g_aload_n (pc := 5) 0 rfl dX12_place_5 rfl ?_
  refine g_iconst (pc := 6) (v := 0) dX12_place_6 (by decide) ?_
  obtain ⟨s2, hs2, hf⟩ := am_bd hf
  refine g_setI (pc := 7) (in_12 hX (by omega)) fr_X12_125 dX12_place_7 (Option.some.inj hs2) ?_
  refine g_aload_n (pc := 10) 0 rfl dX12_place_10 rfl ?_
  refine g_iload_n (pc := 11) 1 rfl dX12_place_11 rfl ?_
  refine g_iload_n (pc := 12) 2 rfl dX12_place_12 rfl ?_
  obtain ⟨p3, hp3, hf⟩ := am_bd hf
  refine g_cV (pc := 13) (As := [.int v1, .int v2]) (st := []) (st1 := [.int (am_b p3)]) (in_12 hX (by omega)) kk_12 mV_X12_isWaveOf ln_X12_300 rfl (Nat.le_of_ble_eq_true rfl) (Nat.le_of_ble_eq_true rfl) (k_X12_isWaveOf hX v1 v2 s2 hp3) dX12_place_13 rfl rfl ?_
  refine bt_ne (pc := 16) 25 dX12_place_16 rfl (fun c4 => ?_) (fun c4 => ?_)
  · replace hf := am_ifT c4 hf
    refine g_iload_n (pc := 25) 3 rfl dX12_place_25 rfl ?_
    obtain ⟨p5, hp5, hf⟩ := am_bd hf
    refine g_cS (pc := 26) (As := [.int v3]) (st := []) (st1 := [.int (am_b p5)]) mS_X12_isHour ln_X12_331 rfl (Nat.le_of_ble_eq_true rfl) (Nat.le_of_ble_eq_true rfl) (k_X12_isHour hX v3 s2 hp5) dX12_place_26 rfl rfl ?_
    refine bt_eq (pc := 29) 44 dX12_place_29 rfl (fun c6 => ?_) (fun c6 => ?_)
    · replace hf := am_ifT c6 hf
      refine g_aload_n (pc := 32) 0 rfl dX12_place_32 rfl ?_
      refine g_iload_n (pc := 33) 1 rfl dX12_place_33 rfl ?_
      refine g_iload_n (pc := 34) 2 rfl dX12_place_34 rfl ?_
      refine g_iload_n (pc := 35) 3 rfl dX12_place_35 rfl ?_
      refine g_iload (pc := 36) 4 rfl dX12_place_36 ?_
      obtain ⟨p7, hp7, hf⟩ := am_bd hf
      refine g_cV (pc := 38) (As := [.int v1, .int v2, .int v3, .int (am_b v4)]) (st := []) (st1 := [.int p7]) (in_12 hX (by omega)) kk_12 mV_X12_placeOf ln_X12_327 rfl (Nat.le_of_ble_eq_true rfl) (Nat.le_of_ble_eq_true rfl) (k_X12_placeOf hX v1 v2 v3 v4 s2 hp7) dX12_place_38 rfl rfl ?_
      refine g_goto (pc := 41) 49 dX12_place_41 rfl ?_
      have ho := Option.some.inj hf
      subst ho
      exact g_ireturn (pc := 49) (st := []) rfl dX12_place_49 hk
    replace hf := am_ifF c6 hf
    refine g_aload_n (pc := 44) 0 rfl dX12_place_44 rfl ?_
    refine g_iconst (pc := 45) (v := 5) dX12_place_45 (by decide) ?_
    obtain ⟨p8, hp8, hf⟩ := am_bd hf
    refine g_cV (pc := 46) (As := [.int 5]) (st := []) (st1 := [.int p8.1]) (in_12 hX (by omega)) kk_12 mV_X12_refuse ln_X12_283 rfl (Nat.le_of_ble_eq_true rfl) (Nat.le_of_ble_eq_true rfl) (k_X12_refuse hX 5 s2 hp8) dX12_place_46 rfl rfl ?_
    have ho := Option.some.inj hf
    subst ho
    exact g_ireturn (pc := 49) (st := []) rfl dX12_place_49 hk
  replace hf := am_ifF c4 hf
  refine g_aload_n (pc := 19) 0 rfl dX12_place_19 rfl ?_
  refine g_iconst (pc := 20) (v := 2) dX12_place_20 (by decide) ?_
  obtain ⟨p9, hp9, hf⟩ := am_bd hf
  refine g_cV (pc := 21) (As := [.int 2]) (st := []) (st1 := [.int p9.1]) (in_12 hX (by omega)) kk_12 mV_X12_refuse ln_X12_283 rfl (Nat.le_of_ble_eq_true rfl) (Nat.le_of_ble_eq_true rfl) (k_X12_refuse hX 2 s2 hp9) dX12_place_21 rfl rfl ?_
  have ho := Option.some.inj hf
  subst ho
  exact g_ireturn (pc := 24) (st := []) rfl dX12_place_24 hk
theorem k_X12_place {X : am_X} (hX : am_ks X = am_ksM) (v1 : Int32) (v2 : Int32) (v3 : Int32) (v4 : Bool) (σ : am_H) {o : Int32 × am_H} (hf : f_X12_place v1 v2 v3 v4 σ = some o) : am_C X gm_X12_place [.ref (am_ad X 12 0), .int v1, .int v2, .int v3, .int (am_b v4)] σ (am_is (some (.int o.1)) o.2) :=
  am_ofG rfl (Nat.le_of_ble_eq_true rfl) rfl (q_X12_place hX v1 v2 v3 v4 σ hf ⟨rfl, rfl⟩)
theorem dX12_height_0 : decode cX12_height 0 = .ok (.aload_n 0, 1) := by decide +kernel
theorem dX12_height_1 : decode cX12_height 1 = .ok (.iconst 0, 1) := by decide +kernel
theorem dX12_height_2 : decode cX12_height 2 = .ok (.putfield 122, 3) := by decide +kernel
theorem dX12_height_5 : decode cX12_height 5 = .ok (.aload_n 0, 1) := by decide +kernel
theorem dX12_height_6 : decode cX12_height 6 = .ok (.iconst 0, 1) := by decide +kernel
theorem dX12_height_7 : decode cX12_height 7 = .ok (.putfield 125, 3) := by decide +kernel
theorem dX12_height_10 : decode cX12_height 10 = .ok (.iload_n 1, 1) := by decide +kernel
theorem dX12_height_11 : decode cX12_height 11 = .ok (.invokestatic 280, 3) := by decide +kernel
theorem dX12_height_14 : decode cX12_height 14 = .ok (.ifCond .ne 9, 3) := by decide +kernel
theorem dX12_height_17 : decode cX12_height 17 = .ok (.aload_n 0, 1) := by decide +kernel
theorem dX12_height_18 : decode cX12_height 18 = .ok (.iconst 2, 1) := by decide +kernel
theorem dX12_height_19 : decode cX12_height 19 = .ok (.invokevirtual 283, 3) := by decide +kernel
theorem dX12_height_22 : decode cX12_height 22 = .ok (.ireturn, 1) := by decide +kernel
theorem dX12_height_23 : decode cX12_height 23 = .ok (.iload_n 2, 1) := by decide +kernel
theorem dX12_height_24 : decode cX12_height 24 = .ok (.invokestatic 331, 3) := by decide +kernel
theorem dX12_height_27 : decode cX12_height 27 = .ok (.ifCond .eq 13, 3) := by decide +kernel
theorem dX12_height_30 : decode cX12_height 30 = .ok (.aload_n 0, 1) := by decide +kernel
theorem dX12_height_31 : decode cX12_height 31 = .ok (.iload_n 1, 1) := by decide +kernel
theorem dX12_height_32 : decode cX12_height 32 = .ok (.iload_n 2, 1) := by decide +kernel
theorem dX12_height_33 : decode cX12_height 33 = .ok (.iload_n 3, 1) := by decide +kernel
theorem dX12_height_34 : decode cX12_height 34 = .ok (.invokevirtual 334, 3) := by decide +kernel
theorem dX12_height_37 : decode cX12_height 37 = .ok (.goto 8, 3) := by decide +kernel
theorem dX12_height_40 : decode cX12_height 40 = .ok (.aload_n 0, 1) := by decide +kernel
theorem dX12_height_41 : decode cX12_height 41 = .ok (.iconst 5, 1) := by decide +kernel
theorem dX12_height_42 : decode cX12_height 42 = .ok (.invokevirtual 283, 3) := by decide +kernel
theorem dX12_height_45 : decode cX12_height 45 = .ok (.ireturn, 1) := by decide +kernel
noncomputable def f_X12_height (v1 : Int32) (v2 : Int32) (v3 : Bool) (σ : am_H) : Option (Int32 × am_H) :=
  (some (am_wI σ 12 0 1 0)).bind fun s1 =>
  (some (am_wI s1 12 0 0 0)).bind fun s2 =>
  (f_X12_isMachine v1 s2).bind fun p3 =>
  if p3 = true then
   ((f_X12_isHour v2 s2).bind fun p5 =>
   if p5 = true then
    ((f_X12_heightOf v1 v2 v3 s2).bind fun p7 =>
    some (p7, s2))
   else
   (f_X12_refuse 5 s2).bind fun p8 =>
   some (p8.1, p8.2))
  else
  (f_X12_refuse 2 s2).bind fun p9 =>
  some (p9.1, p9.2)
set_option maxRecDepth 100000 in
set_option maxHeartbeats 4000000 in
theorem q_X12_height {X : am_X} (hX : am_ks X = am_ksM) {Q : Option Value → am_H → Prop} (v1 : Int32) (v2 : Int32) (v3 : Bool) (σ : am_H) {o : Int32 × am_H} (hf : f_X12_height v1 v2 v3 σ = some o) (hk : Q (some (.int o.1)) o.2) : am_G X gm_X12_height Q 0 [(0, .ref (am_ad X 12 0)), (1, .int v1), (2, .int v2), (3, .int (am_b v3))] [] σ := by
  unfold f_X12_height at hf
  refine g_aload_n (pc := 0) 0 rfl dX12_height_0 rfl ?_
  refine g_iconst (pc := 1) (v := 0) dX12_height_1 (by decide) ?_
  obtain ⟨s1, hs1, hf⟩ := am_bd hf
  refine g_setI (pc := 2) (in_12 hX (by omega)) fr_X12_122 dX12_height_2 (Option.some.inj hs1) ?_
  refine g_aload_n (pc := 5) 0 rfl dX12_height_5 rfl ?_
  refine g_iconst (pc := 6) (v := 0) dX12_height_6 (by decide) ?_
  obtain ⟨s2, hs2, hf⟩ := am_bd hf
  refine g_setI (pc := 7) (in_12 hX (by omega)) fr_X12_125 dX12_height_7 (Option.some.inj hs2) ?_
  refine g_iload_n (pc := 10) 1 rfl dX12_height_10 rfl ?_
  obtain ⟨p3, hp3, hf⟩ := am_bd hf
  refine g_cS (pc := 11) (As := [.int v1]) (st := []) (st1 := [.int (am_b p3)]) mS_X12_isMachine ln_X12_280 rfl (Nat.le_of_ble_eq_true rfl) (Nat.le_of_ble_eq_true rfl) (k_X12_isMachine hX v1 s2 hp3) dX12_height_11 rfl rfl ?_
  refine bt_ne (pc := 14) 23 dX12_height_14 rfl (fun c4 => ?_) (fun c4 => ?_)
  · replace hf := am_ifT c4 hf
    refine g_iload_n (pc := 23) 2 rfl dX12_height_23 rfl ?_
    obtain ⟨p5, hp5, hf⟩ := am_bd hf
    refine g_cS (pc := 24) (As := [.int v2]) (st := []) (st1 := [.int (am_b p5)]) mS_X12_isHour ln_X12_331 rfl (Nat.le_of_ble_eq_true rfl) (Nat.le_of_ble_eq_true rfl) (k_X12_isHour hX v2 s2 hp5) dX12_height_24 rfl rfl ?_
    refine bt_eq (pc := 27) 40 dX12_height_27 rfl (fun c6 => ?_) (fun c6 => ?_)
    · replace hf := am_ifT c6 hf
      refine g_aload_n (pc := 30) 0 rfl dX12_height_30 rfl ?_
      refine g_iload_n (pc := 31) 1 rfl dX12_height_31 rfl ?_
      refine g_iload_n (pc := 32) 2 rfl dX12_height_32 rfl ?_
      refine g_iload_n (pc := 33) 3 rfl dX12_height_33 rfl ?_
      obtain ⟨p7, hp7, hf⟩ := am_bd hf
      refine g_cV (pc := 34) (As := [.int v1, .int v2, .int (am_b v3)]) (st := []) (st1 := [.int p7]) (in_12 hX (by omega)) kk_12 mV_X12_heightOf ln_X12_334 rfl (Nat.le_of_ble_eq_true rfl) (Nat.le_of_ble_eq_true rfl) (k_X12_heightOf hX v1 v2 v3 s2 hp7) dX12_height_34 rfl rfl ?_
      refine g_goto (pc := 37) 45 dX12_height_37 rfl ?_
      have ho := Option.some.inj hf
      subst ho
      exact g_ireturn (pc := 45) (st := []) rfl dX12_height_45 hk
    replace hf := am_ifF c6 hf
    refine g_aload_n (pc := 40) 0 rfl dX12_height_40 rfl ?_
    refine g_iconst (pc := 41) (v := 5) dX12_height_41 (by decide) ?_
    obtain ⟨p8, hp8, hf⟩ := am_bd hf
    refine g_cV (pc := 42) (As := [.int 5]) (st := []) (st1 := [.int p8.1]) (in_12 hX (by omega)) kk_12 mV_X12_refuse ln_X12_283 rfl (Nat.le_of_ble_eq_true rfl) (Nat.le_of_ble_eq_true rfl) (k_X12_refuse hX 5 s2 hp8) dX12_height_42 rfl rfl ?_
    have ho := Option.some.inj hf
    subst ho
    exact g_ireturn (pc := 45) (st := []) rfl dX12_height_45 hk
  replace hf := am_ifF c4 hf
  refine g_aload_n (pc := 17) 0 rfl dX12_height_17 rfl ?_
  refine g_iconst (pc := 18) (v := 2) dX12_height_18 (by decide) ?_
  obtain ⟨p9, hp9, hf⟩ := am_bd hf
  refine g_cV (pc := 19) (As := [.int 2]) (st := []) (st1 := [.int p9.1]) (in_12 hX (by omega)) kk_12 mV_X12_refuse ln_X12_283 rfl (Nat.le_of_ble_eq_true rfl) (Nat.le_of_ble_eq_true rfl) (k_X12_refuse hX 2 s2 hp9) dX12_height_19 rfl rfl ?_
  have ho := Option.some.inj hf
  subst ho
  exact g_ireturn (pc := 22) (st := []) rfl dX12_height_22 hk
theorem k_X12_height {X : am_X} (hX : am_ks X = am_ksM) (v1 : Int32) (v2 : Int32) (v3 : Bool) (σ : am_H) {o : Int32 × am_H} (hf : f_X12_height v1 v2 v3 σ = some o) : am_C X gm_X12_height [.ref (am_ad X 12 0), .int v1, .int v2, .int (am_b v3)] σ (am_is (some (.int o.1)) o.2) :=
  am_ofG rfl (Nat.le_of_ble_eq_true rfl) rfl (q_X12_height hX v1 v2 v3 σ hf ⟨rfl, rfl⟩)
