/-! written by program: X7_findings X7_digest -/
theorem dX7_findings_0 : decode cX7_findings 0 = .ok (.iload_n 1, 1) := by decide +kernel
theorem dX7_findings_1 : decode cX7_findings 1 = .ok (.i2l, 1) := by decide +kernel
theorem dX7_findings_2 : decode cX7_findings 2 = .ok (.lconst 1, 1) := by decide +kernel
theorem dX7_findings_3 : decode cX7_findings 3 = .ok (.ldc2_w 64, 3) := by decide +kernel
theorem dX7_findings_6 : decode cX7_findings 6 = .ok (.invokestatic 66, 3) := by decide +kernel
theorem dX7_findings_9 : decode cX7_findings 9 = .ok (.ifCond .eq 12, 3) := by decide +kernel
theorem dX7_findings_12 : decode cX7_findings 12 = .ok (.aload_n 0, 1) := by decide +kernel
theorem dX7_findings_13 : decode cX7_findings 13 = .ok (.getfield 36, 3) := by decide +kernel
theorem dX7_findings_16 : decode cX7_findings 16 = .ok (.iload_n 1, 1) := by decide +kernel
theorem dX7_findings_17 : decode cX7_findings 17 = .ok (.iaload, 1) := by decide +kernel
theorem dX7_findings_18 : decode cX7_findings 18 = .ok (.goto 4, 3) := by decide +kernel
theorem dX7_findings_21 : decode cX7_findings 21 = .ok (.iconst (-1), 1) := by decide +kernel
theorem dX7_findings_22 : decode cX7_findings 22 = .ok (.ireturn, 1) := by decide +kernel
def F_X7_findings (n : Nat) (S : aSt) (a0 : Nat) (a1 : Int32) : Option Int32 :=
(F_X7_in n S a1.toInt64 (1 : Int64) (5 : Int64)).bind fun r6 =>
if r6 = 0 then (some (-1 : Int32)) else
rfd (S.2.2 a0 11) 7 fun k13 =>
grd (inb a1 (SH k13).2) <|
some (S.1 k13 a1.toNatClampNeg)
set_option maxHeartbeats 4000000 in
set_option maxRecDepth 100000 in
theorem C_X7_findings (G : aG) (l : Launch) (n : Nat) (S : aSt) (a0 : Nat) (a1 : Int32) (r : Int32) (ha0 : isT a0 6 = true) (hf : F_X7_findings n S a0 a1 = some r) : Ctr G l yX7_findings mX7_findings (rmM 2) 97 97 S [.ref a0, .int a1] (some (.int r)) S := by
  refine Ctr.of (by decide) rfl rfl (Nat.le_of_ble_eq_true rfl) [(0, .ref a0), (1, .int a1)] rfl ?_
  unfold F_X7_findings at hf
  refine Go.iload_n 1 1 rfl dX7_findings_0 rfl ?_
  refine Go.i2l 2 rfl dX7_findings_1 ?_
  refine Go.lconst (1 : Int64) 3 rfl dX7_findings_2 cl_1 ?_
  refine Go.ldc2 (5 : Int64) 6 rfl dX7_findings_3 (am_mem 910 (by decide +kernel) rfl) ?_
  obtain ⟨r6, er6, hf⟩ := f_bnd hf
  refine Go.cS 9 [.long a1.toInt64, .long (1 : Int64), .long (5 : Int64)] [] (C_X7_in G l n S a1.toInt64 (1 : Int64) (5 : Int64) r6  er6) rfl dX7_findings_6 cx_X7_66 (by decide) (by decide) rfl (Nat.le_of_ble_eq_true rfl) ?_
  refine Go.if_eq 21 12 rfl dX7_findings_9 rfl (fun hc => ?_) (fun hc => ?_)
  · replace hf := f_if hf hc
    refine Go.iconst (-1 : Int32) 22 rfl dX7_findings_21 ci_m1 ?_
    exact Go.ir rfl dX7_findings_22 hf
  · replace hf := f_el hf hc
    refine Go.aload_n 0 13 rfl dX7_findings_12 rfl ?_
    obtain ⟨k13, qk13, hk13, hf⟩ := f_rfd hf
    refine Go.getR 16 rfl dX7_findings_13 fl_X7_36 rfl (isT_lt ha0) (isT_sh ha0) qk13 ?_
    refine Go.iload_n 1 17 rfl dX7_findings_16 rfl ?_
    obtain ⟨g17, hf⟩ := f_grd hf
    refine Go.iald 18 rfl dX7_findings_17 (isT_lt hk13) (isT_sh hk13) g17 ?_
    refine Go.goto 22 dX7_findings_18 rfl ?_
    exact Go.ir rfl dX7_findings_22 hf
theorem dX7_digest_0 : decode cX7_digest 0 = .ok (.ldc2_w 228, 3) := by decide +kernel
theorem dX7_digest_3 : decode cX7_digest 3 = .ok (.lstore_n 1, 1) := by decide +kernel
theorem dX7_digest_4 : decode cX7_digest 4 = .ok (.iconst 0, 1) := by decide +kernel
theorem dX7_digest_5 : decode cX7_digest 5 = .ok (.istore_n 3, 1) := by decide +kernel
theorem dX7_digest_6 : decode cX7_digest 6 = .ok (.iload_n 3, 1) := by decide +kernel
theorem dX7_digest_7 : decode cX7_digest 7 = .ok (.bipush 9, 2) := by decide +kernel
theorem dX7_digest_9 : decode cX7_digest 9 = .ok (.if_icmp .ge 22, 3) := by decide +kernel
theorem dX7_digest_12 : decode cX7_digest 12 = .ok (.ldc2_w 230, 3) := by decide +kernel
theorem dX7_digest_15 : decode cX7_digest 15 = .ok (.lload_n 1, 1) := by decide +kernel
theorem dX7_digest_16 : decode cX7_digest 16 = .ok (.lmul, 1) := by decide +kernel
theorem dX7_digest_17 : decode cX7_digest 17 = .ok (.aload_n 0, 1) := by decide +kernel
theorem dX7_digest_18 : decode cX7_digest 18 = .ok (.iload_n 3, 1) := by decide +kernel
theorem dX7_digest_19 : decode cX7_digest 19 = .ok (.invokevirtual 225, 3) := by decide +kernel
theorem dX7_digest_22 : decode cX7_digest 22 = .ok (.i2l, 1) := by decide +kernel
theorem dX7_digest_23 : decode cX7_digest 23 = .ok (.ladd, 1) := by decide +kernel
theorem dX7_digest_24 : decode cX7_digest 24 = .ok (.lstore_n 1, 1) := by decide +kernel
theorem dX7_digest_25 : decode cX7_digest 25 = .ok (.iinc 3 1, 3) := by decide +kernel
theorem dX7_digest_28 : decode cX7_digest 28 = .ok (.goto (-22), 3) := by decide +kernel
theorem dX7_digest_31 : decode cX7_digest 31 = .ok (.iconst 0, 1) := by decide +kernel
theorem dX7_digest_32 : decode cX7_digest 32 = .ok (.istore_n 3, 1) := by decide +kernel
theorem dX7_digest_33 : decode cX7_digest 33 = .ok (.iload_n 3, 1) := by decide +kernel
theorem dX7_digest_34 : decode cX7_digest 34 = .ok (.aload_n 0, 1) := by decide +kernel
theorem dX7_digest_35 : decode cX7_digest 35 = .ok (.getfield 22, 3) := by decide +kernel
theorem dX7_digest_38 : decode cX7_digest 38 = .ok (.iconst 0, 1) := by decide +kernel
theorem dX7_digest_39 : decode cX7_digest 39 = .ok (.iaload, 1) := by decide +kernel
theorem dX7_digest_40 : decode cX7_digest 40 = .ok (.if_icmp .ge 40, 3) := by decide +kernel
theorem dX7_digest_43 : decode cX7_digest 43 = .ok (.iconst 0, 1) := by decide +kernel
theorem dX7_digest_44 : decode cX7_digest 44 = .ok (.istore 4, 2) := by decide +kernel
theorem dX7_digest_46 : decode cX7_digest 46 = .ok (.iload 4, 2) := by decide +kernel
theorem dX7_digest_48 : decode cX7_digest 48 = .ok (.bipush 6, 2) := by decide +kernel
theorem dX7_digest_50 : decode cX7_digest 50 = .ok (.if_icmp .ge 24, 3) := by decide +kernel
theorem dX7_digest_53 : decode cX7_digest 53 = .ok (.ldc2_w 230, 3) := by decide +kernel
theorem dX7_digest_56 : decode cX7_digest 56 = .ok (.lload_n 1, 1) := by decide +kernel
theorem dX7_digest_57 : decode cX7_digest 57 = .ok (.lmul, 1) := by decide +kernel
theorem dX7_digest_58 : decode cX7_digest 58 = .ok (.aload_n 0, 1) := by decide +kernel
theorem dX7_digest_59 : decode cX7_digest 59 = .ok (.iload_n 3, 1) := by decide +kernel
theorem dX7_digest_60 : decode cX7_digest 60 = .ok (.iload 4, 2) := by decide +kernel
theorem dX7_digest_62 : decode cX7_digest 62 = .ok (.invokevirtual 132, 3) := by decide +kernel
theorem dX7_digest_65 : decode cX7_digest 65 = .ok (.i2l, 1) := by decide +kernel
theorem dX7_digest_66 : decode cX7_digest 66 = .ok (.ladd, 1) := by decide +kernel
theorem dX7_digest_67 : decode cX7_digest 67 = .ok (.lstore_n 1, 1) := by decide +kernel
theorem dX7_digest_68 : decode cX7_digest 68 = .ok (.iinc 4 1, 3) := by decide +kernel
theorem dX7_digest_71 : decode cX7_digest 71 = .ok (.goto (-25), 3) := by decide +kernel
theorem dX7_digest_74 : decode cX7_digest 74 = .ok (.iinc 3 1, 3) := by decide +kernel
theorem dX7_digest_77 : decode cX7_digest 77 = .ok (.goto (-44), 3) := by decide +kernel
theorem dX7_digest_80 : decode cX7_digest 80 = .ok (.iconst 0, 1) := by decide +kernel
theorem dX7_digest_81 : decode cX7_digest 81 = .ok (.istore_n 3, 1) := by decide +kernel
theorem dX7_digest_82 : decode cX7_digest 82 = .ok (.iload_n 3, 1) := by decide +kernel
theorem dX7_digest_83 : decode cX7_digest 83 = .ok (.aload_n 0, 1) := by decide +kernel
theorem dX7_digest_84 : decode cX7_digest 84 = .ok (.getfield 22, 3) := by decide +kernel
theorem dX7_digest_87 : decode cX7_digest 87 = .ok (.iconst 1, 1) := by decide +kernel
theorem dX7_digest_88 : decode cX7_digest 88 = .ok (.iaload, 1) := by decide +kernel
theorem dX7_digest_89 : decode cX7_digest 89 = .ok (.if_icmp .ge 48, 3) := by decide +kernel
theorem dX7_digest_92 : decode cX7_digest 92 = .ok (.iconst 0, 1) := by decide +kernel
theorem dX7_digest_93 : decode cX7_digest 93 = .ok (.istore 4, 2) := by decide +kernel
theorem dX7_digest_95 : decode cX7_digest 95 = .ok (.iload 4, 2) := by decide +kernel
theorem dX7_digest_97 : decode cX7_digest 97 = .ok (.bipush 6, 2) := by decide +kernel
theorem dX7_digest_99 : decode cX7_digest 99 = .ok (.if_icmp .ge 32, 3) := by decide +kernel
theorem dX7_digest_102 : decode cX7_digest 102 = .ok (.ldc2_w 230, 3) := by decide +kernel
theorem dX7_digest_105 : decode cX7_digest 105 = .ok (.lload_n 1, 1) := by decide +kernel
theorem dX7_digest_106 : decode cX7_digest 106 = .ok (.lmul, 1) := by decide +kernel
theorem dX7_digest_107 : decode cX7_digest 107 = .ok (.aload_n 0, 1) := by decide +kernel
theorem dX7_digest_108 : decode cX7_digest 108 = .ok (.getfield 22, 3) := by decide +kernel
theorem dX7_digest_111 : decode cX7_digest 111 = .ok (.bipush 31, 2) := by decide +kernel
theorem dX7_digest_113 : decode cX7_digest 113 = .ok (.bipush 7, 2) := by decide +kernel
theorem dX7_digest_115 : decode cX7_digest 115 = .ok (.iload 4, 2) := by decide +kernel
theorem dX7_digest_117 : decode cX7_digest 117 = .ok (.imul, 1) := by decide +kernel
theorem dX7_digest_118 : decode cX7_digest 118 = .ok (.iadd, 1) := by decide +kernel
theorem dX7_digest_119 : decode cX7_digest 119 = .ok (.iload_n 3, 1) := by decide +kernel
theorem dX7_digest_120 : decode cX7_digest 120 = .ok (.iadd, 1) := by decide +kernel
theorem dX7_digest_121 : decode cX7_digest 121 = .ok (.iaload, 1) := by decide +kernel
theorem dX7_digest_122 : decode cX7_digest 122 = .ok (.i2l, 1) := by decide +kernel
theorem dX7_digest_123 : decode cX7_digest 123 = .ok (.ladd, 1) := by decide +kernel
theorem dX7_digest_124 : decode cX7_digest 124 = .ok (.lstore_n 1, 1) := by decide +kernel
theorem dX7_digest_125 : decode cX7_digest 125 = .ok (.iinc 4 1, 3) := by decide +kernel
theorem dX7_digest_128 : decode cX7_digest 128 = .ok (.goto (-33), 3) := by decide +kernel
theorem dX7_digest_131 : decode cX7_digest 131 = .ok (.iinc 3 1, 3) := by decide +kernel
theorem dX7_digest_134 : decode cX7_digest 134 = .ok (.goto (-52), 3) := by decide +kernel
theorem dX7_digest_137 : decode cX7_digest 137 = .ok (.iconst 0, 1) := by decide +kernel
theorem dX7_digest_138 : decode cX7_digest 138 = .ok (.istore_n 3, 1) := by decide +kernel
theorem dX7_digest_139 : decode cX7_digest 139 = .ok (.iload_n 3, 1) := by decide +kernel
theorem dX7_digest_140 : decode cX7_digest 140 = .ok (.aload_n 0, 1) := by decide +kernel
theorem dX7_digest_141 : decode cX7_digest 141 = .ok (.getfield 22, 3) := by decide +kernel
theorem dX7_digest_144 : decode cX7_digest 144 = .ok (.iconst 2, 1) := by decide +kernel
theorem dX7_digest_145 : decode cX7_digest 145 = .ok (.iaload, 1) := by decide +kernel
theorem dX7_digest_146 : decode cX7_digest 146 = .ok (.if_icmp .ge 26, 3) := by decide +kernel
theorem dX7_digest_149 : decode cX7_digest 149 = .ok (.ldc2_w 230, 3) := by decide +kernel
theorem dX7_digest_152 : decode cX7_digest 152 = .ok (.lload_n 1, 1) := by decide +kernel
theorem dX7_digest_153 : decode cX7_digest 153 = .ok (.lmul, 1) := by decide +kernel
theorem dX7_digest_154 : decode cX7_digest 154 = .ok (.aload_n 0, 1) := by decide +kernel
theorem dX7_digest_155 : decode cX7_digest 155 = .ok (.getfield 22, 3) := by decide +kernel
theorem dX7_digest_158 : decode cX7_digest 158 = .ok (.bipush 73, 2) := by decide +kernel
theorem dX7_digest_160 : decode cX7_digest 160 = .ok (.iload_n 3, 1) := by decide +kernel
theorem dX7_digest_161 : decode cX7_digest 161 = .ok (.iadd, 1) := by decide +kernel
theorem dX7_digest_162 : decode cX7_digest 162 = .ok (.iaload, 1) := by decide +kernel
theorem dX7_digest_163 : decode cX7_digest 163 = .ok (.i2l, 1) := by decide +kernel
theorem dX7_digest_164 : decode cX7_digest 164 = .ok (.ladd, 1) := by decide +kernel
theorem dX7_digest_165 : decode cX7_digest 165 = .ok (.lstore_n 1, 1) := by decide +kernel
theorem dX7_digest_166 : decode cX7_digest 166 = .ok (.iinc 3 1, 3) := by decide +kernel
theorem dX7_digest_169 : decode cX7_digest 169 = .ok (.goto (-30), 3) := by decide +kernel
theorem dX7_digest_172 : decode cX7_digest 172 = .ok (.iconst 0, 1) := by decide +kernel
theorem dX7_digest_173 : decode cX7_digest 173 = .ok (.istore_n 3, 1) := by decide +kernel
theorem dX7_digest_174 : decode cX7_digest 174 = .ok (.iload_n 3, 1) := by decide +kernel
theorem dX7_digest_175 : decode cX7_digest 175 = .ok (.iconst 3, 1) := by decide +kernel
theorem dX7_digest_176 : decode cX7_digest 176 = .ok (.if_icmp .ge 42, 3) := by decide +kernel
theorem dX7_digest_179 : decode cX7_digest 179 = .ok (.ldc2_w 230, 3) := by decide +kernel
theorem dX7_digest_182 : decode cX7_digest 182 = .ok (.lload_n 1, 1) := by decide +kernel
theorem dX7_digest_183 : decode cX7_digest 183 = .ok (.lmul, 1) := by decide +kernel
theorem dX7_digest_184 : decode cX7_digest 184 = .ok (.aload_n 0, 1) := by decide +kernel
theorem dX7_digest_185 : decode cX7_digest 185 = .ok (.getfield 28, 3) := by decide +kernel
theorem dX7_digest_188 : decode cX7_digest 188 = .ok (.iload_n 3, 1) := by decide +kernel
theorem dX7_digest_189 : decode cX7_digest 189 = .ok (.baload, 1) := by decide +kernel
theorem dX7_digest_190 : decode cX7_digest 190 = .ok (.ifCond .eq 18, 3) := by decide +kernel
theorem dX7_digest_193 : decode cX7_digest 193 = .ok (.aload_n 0, 1) := by decide +kernel
theorem dX7_digest_194 : decode cX7_digest 194 = .ok (.getfield 25, 3) := by decide +kernel
theorem dX7_digest_197 : decode cX7_digest 197 = .ok (.sipush 393, 3) := by decide +kernel
theorem dX7_digest_200 : decode cX7_digest 200 = .ok (.iload_n 3, 1) := by decide +kernel
theorem dX7_digest_201 : decode cX7_digest 201 = .ok (.imul, 1) := by decide +kernel
theorem dX7_digest_202 : decode cX7_digest 202 = .ok (.iconst 2, 1) := by decide +kernel
theorem dX7_digest_203 : decode cX7_digest 203 = .ok (.iadd, 1) := by decide +kernel
theorem dX7_digest_204 : decode cX7_digest 204 = .ok (.iaload, 1) := by decide +kernel
theorem dX7_digest_205 : decode cX7_digest 205 = .ok (.goto 4, 3) := by decide +kernel
theorem dX7_digest_208 : decode cX7_digest 208 = .ok (.iconst (-1), 1) := by decide +kernel
theorem dX7_digest_209 : decode cX7_digest 209 = .ok (.i2l, 1) := by decide +kernel
theorem dX7_digest_210 : decode cX7_digest 210 = .ok (.ladd, 1) := by decide +kernel
theorem dX7_digest_211 : decode cX7_digest 211 = .ok (.lstore_n 1, 1) := by decide +kernel
theorem dX7_digest_212 : decode cX7_digest 212 = .ok (.iinc 3 1, 3) := by decide +kernel
theorem dX7_digest_215 : decode cX7_digest 215 = .ok (.goto (-41), 3) := by decide +kernel
theorem dX7_digest_218 : decode cX7_digest 218 = .ok (.iconst 0, 1) := by decide +kernel
theorem dX7_digest_219 : decode cX7_digest 219 = .ok (.istore_n 3, 1) := by decide +kernel
theorem dX7_digest_220 : decode cX7_digest 220 = .ok (.iload_n 3, 1) := by decide +kernel
theorem dX7_digest_221 : decode cX7_digest 221 = .ok (.bipush 6, 2) := by decide +kernel
theorem dX7_digest_223 : decode cX7_digest 223 = .ok (.if_icmp .ge 63, 3) := by decide +kernel
theorem dX7_digest_226 : decode cX7_digest 226 = .ok (.ldc2_w 230, 3) := by decide +kernel
theorem dX7_digest_229 : decode cX7_digest 229 = .ok (.lload_n 1, 1) := by decide +kernel
theorem dX7_digest_230 : decode cX7_digest 230 = .ok (.lmul, 1) := by decide +kernel
theorem dX7_digest_231 : decode cX7_digest 231 = .ok (.aload_n 0, 1) := by decide +kernel
theorem dX7_digest_232 : decode cX7_digest 232 = .ok (.getfield 7, 3) := by decide +kernel
theorem dX7_digest_235 : decode cX7_digest 235 = .ok (.iload_n 3, 1) := by decide +kernel
theorem dX7_digest_236 : decode cX7_digest 236 = .ok (.iaload, 1) := by decide +kernel
theorem dX7_digest_237 : decode cX7_digest 237 = .ok (.i2l, 1) := by decide +kernel
theorem dX7_digest_238 : decode cX7_digest 238 = .ok (.ladd, 1) := by decide +kernel
theorem dX7_digest_239 : decode cX7_digest 239 = .ok (.lstore_n 1, 1) := by decide +kernel
theorem dX7_digest_240 : decode cX7_digest 240 = .ok (.iconst 0, 1) := by decide +kernel
theorem dX7_digest_241 : decode cX7_digest 241 = .ok (.istore 4, 2) := by decide +kernel
theorem dX7_digest_243 : decode cX7_digest 243 = .ok (.iload 4, 2) := by decide +kernel
theorem dX7_digest_245 : decode cX7_digest 245 = .ok (.aload_n 0, 1) := by decide +kernel
theorem dX7_digest_246 : decode cX7_digest 246 = .ok (.getfield 7, 3) := by decide +kernel
theorem dX7_digest_249 : decode cX7_digest 249 = .ok (.iload_n 3, 1) := by decide +kernel
theorem dX7_digest_250 : decode cX7_digest 250 = .ok (.iaload, 1) := by decide +kernel
theorem dX7_digest_251 : decode cX7_digest 251 = .ok (.if_icmp .ge 29, 3) := by decide +kernel
theorem dX7_digest_254 : decode cX7_digest 254 = .ok (.ldc2_w 230, 3) := by decide +kernel
theorem dX7_digest_257 : decode cX7_digest 257 = .ok (.lload_n 1, 1) := by decide +kernel
theorem dX7_digest_258 : decode cX7_digest 258 = .ok (.lmul, 1) := by decide +kernel
theorem dX7_digest_259 : decode cX7_digest 259 = .ok (.aload_n 0, 1) := by decide +kernel
theorem dX7_digest_260 : decode cX7_digest 260 = .ok (.getfield 13, 3) := by decide +kernel
theorem dX7_digest_263 : decode cX7_digest 263 = .ok (.bipush 40, 2) := by decide +kernel
theorem dX7_digest_265 : decode cX7_digest 265 = .ok (.iload_n 3, 1) := by decide +kernel
theorem dX7_digest_266 : decode cX7_digest 266 = .ok (.imul, 1) := by decide +kernel
theorem dX7_digest_267 : decode cX7_digest 267 = .ok (.iload 4, 2) := by decide +kernel
theorem dX7_digest_269 : decode cX7_digest 269 = .ok (.iadd, 1) := by decide +kernel
theorem dX7_digest_270 : decode cX7_digest 270 = .ok (.iaload, 1) := by decide +kernel
theorem dX7_digest_271 : decode cX7_digest 271 = .ok (.i2l, 1) := by decide +kernel
theorem dX7_digest_272 : decode cX7_digest 272 = .ok (.ladd, 1) := by decide +kernel
theorem dX7_digest_273 : decode cX7_digest 273 = .ok (.lstore_n 1, 1) := by decide +kernel
theorem dX7_digest_274 : decode cX7_digest 274 = .ok (.iinc 4 1, 3) := by decide +kernel
theorem dX7_digest_277 : decode cX7_digest 277 = .ok (.goto (-34), 3) := by decide +kernel
theorem dX7_digest_280 : decode cX7_digest 280 = .ok (.iinc 3 1, 3) := by decide +kernel
theorem dX7_digest_283 : decode cX7_digest 283 = .ok (.goto (-63), 3) := by decide +kernel
theorem dX7_digest_286 : decode cX7_digest 286 = .ok (.iconst 0, 1) := by decide +kernel
theorem dX7_digest_287 : decode cX7_digest 287 = .ok (.istore_n 3, 1) := by decide +kernel
theorem dX7_digest_288 : decode cX7_digest 288 = .ok (.iload_n 3, 1) := by decide +kernel
theorem dX7_digest_289 : decode cX7_digest 289 = .ok (.iconst 4, 1) := by decide +kernel
theorem dX7_digest_290 : decode cX7_digest 290 = .ok (.if_icmp .ge 63, 3) := by decide +kernel
theorem dX7_digest_293 : decode cX7_digest 293 = .ok (.ldc2_w 230, 3) := by decide +kernel
theorem dX7_digest_296 : decode cX7_digest 296 = .ok (.lload_n 1, 1) := by decide +kernel
theorem dX7_digest_297 : decode cX7_digest 297 = .ok (.lmul, 1) := by decide +kernel
theorem dX7_digest_298 : decode cX7_digest 298 = .ok (.aload_n 0, 1) := by decide +kernel
theorem dX7_digest_299 : decode cX7_digest 299 = .ok (.getfield 16, 3) := by decide +kernel
theorem dX7_digest_302 : decode cX7_digest 302 = .ok (.iload_n 3, 1) := by decide +kernel
theorem dX7_digest_303 : decode cX7_digest 303 = .ok (.iaload, 1) := by decide +kernel
theorem dX7_digest_304 : decode cX7_digest 304 = .ok (.i2l, 1) := by decide +kernel
theorem dX7_digest_305 : decode cX7_digest 305 = .ok (.ladd, 1) := by decide +kernel
theorem dX7_digest_306 : decode cX7_digest 306 = .ok (.lstore_n 1, 1) := by decide +kernel
theorem dX7_digest_307 : decode cX7_digest 307 = .ok (.iconst 0, 1) := by decide +kernel
theorem dX7_digest_308 : decode cX7_digest 308 = .ok (.istore 4, 2) := by decide +kernel
theorem dX7_digest_310 : decode cX7_digest 310 = .ok (.iload 4, 2) := by decide +kernel
theorem dX7_digest_312 : decode cX7_digest 312 = .ok (.aload_n 0, 1) := by decide +kernel
theorem dX7_digest_313 : decode cX7_digest 313 = .ok (.getfield 16, 3) := by decide +kernel
theorem dX7_digest_316 : decode cX7_digest 316 = .ok (.iload_n 3, 1) := by decide +kernel
theorem dX7_digest_317 : decode cX7_digest 317 = .ok (.iaload, 1) := by decide +kernel
theorem dX7_digest_318 : decode cX7_digest 318 = .ok (.if_icmp .ge 29, 3) := by decide +kernel
theorem dX7_digest_321 : decode cX7_digest 321 = .ok (.ldc2_w 230, 3) := by decide +kernel
theorem dX7_digest_324 : decode cX7_digest 324 = .ok (.lload_n 1, 1) := by decide +kernel
theorem dX7_digest_325 : decode cX7_digest 325 = .ok (.lmul, 1) := by decide +kernel
theorem dX7_digest_326 : decode cX7_digest 326 = .ok (.aload_n 0, 1) := by decide +kernel
theorem dX7_digest_327 : decode cX7_digest 327 = .ok (.getfield 19, 3) := by decide +kernel
theorem dX7_digest_330 : decode cX7_digest 330 = .ok (.bipush 80, 2) := by decide +kernel
theorem dX7_digest_332 : decode cX7_digest 332 = .ok (.iload_n 3, 1) := by decide +kernel
theorem dX7_digest_333 : decode cX7_digest 333 = .ok (.imul, 1) := by decide +kernel
theorem dX7_digest_334 : decode cX7_digest 334 = .ok (.iload 4, 2) := by decide +kernel
theorem dX7_digest_336 : decode cX7_digest 336 = .ok (.iadd, 1) := by decide +kernel
theorem dX7_digest_337 : decode cX7_digest 337 = .ok (.iaload, 1) := by decide +kernel
theorem dX7_digest_338 : decode cX7_digest 338 = .ok (.i2l, 1) := by decide +kernel
theorem dX7_digest_339 : decode cX7_digest 339 = .ok (.ladd, 1) := by decide +kernel
theorem dX7_digest_340 : decode cX7_digest 340 = .ok (.lstore_n 1, 1) := by decide +kernel
theorem dX7_digest_341 : decode cX7_digest 341 = .ok (.iinc 4 1, 3) := by decide +kernel
theorem dX7_digest_344 : decode cX7_digest 344 = .ok (.goto (-34), 3) := by decide +kernel
theorem dX7_digest_347 : decode cX7_digest 347 = .ok (.iinc 3 1, 3) := by decide +kernel
theorem dX7_digest_350 : decode cX7_digest 350 = .ok (.goto (-62), 3) := by decide +kernel
theorem dX7_digest_353 : decode cX7_digest 353 = .ok (.lload_n 1, 1) := by decide +kernel
theorem dX7_digest_354 : decode cX7_digest 354 = .ok (.lreturn, 1) := by decide +kernel
def F_X7_digest_L310 (S : aSt) (a0 : Nat) (l288_3 : Int32) (k299 : Nat) (K347 : Int64 → Option Int64) : Nat → Int64 → Int32 → Option Int64
  | 0, _, _ => none
  | fu + 1, l310_1, l310_4 =>
    grd (inb l288_3 (SH k299).2) <|
    if (S.1 k299 l288_3.toNatClampNeg) ≤ l310_4 then (K347 l310_1) else
    rfd (S.2.2 a0 3) 7 fun k327 =>
    grd (inb (((80 : Int32) * l288_3) + l310_4) (SH k327).2) <|
    nm (((31 : Int64) * l310_1) + (S.1 k327 (((80 : Int32) * l288_3) + l310_4).toNatClampNeg).toInt64) fun v340 =>
    F_X7_digest_L310 S a0 l288_3 k299 K347 fu v340 (l310_4 + (1 : Int32))
def F_X7_digest_L288 (n : Nat) (S : aSt) (a0 : Nat) (K353 : Int64 → Option Int64) : Nat → Int64 → Int32 → Option Int64
  | 0, _, _ => none
  | fu + 1, l288_1, l288_3 =>
    if (4 : Int32) ≤ l288_3 then (K353 l288_1) else
    rfd (S.2.2 a0 2) 7 fun k299 =>
    grd (inb l288_3 (SH k299).2) <|
    nm (((31 : Int64) * l288_1) + (S.1 k299 l288_3.toNatClampNeg).toInt64) fun v306 =>
    jn (fun (x347_1 : Int64) => (F_X7_digest_L288 n S a0 K353 fu x347_1 (l288_3 + (1 : Int32)) : Option Int64)) fun K347 =>
    F_X7_digest_L310 S a0 l288_3 k299 K347 n v306 (0 : Int32)
def F_X7_digest_L243 (S : aSt) (a0 : Nat) (l220_3 : Int32) (k232 : Nat) (K280 : Int64 → Option Int64) : Nat → Int64 → Int32 → Option Int64
  | 0, _, _ => none
  | fu + 1, l243_1, l243_4 =>
    grd (inb l220_3 (SH k232).2) <|
    if (S.1 k232 l220_3.toNatClampNeg) ≤ l243_4 then (K280 l243_1) else
    rfd (S.2.2 a0 1) 7 fun k260 =>
    grd (inb (((40 : Int32) * l220_3) + l243_4) (SH k260).2) <|
    nm (((31 : Int64) * l243_1) + (S.1 k260 (((40 : Int32) * l220_3) + l243_4).toNatClampNeg).toInt64) fun v273 =>
    F_X7_digest_L243 S a0 l220_3 k232 K280 fu v273 (l243_4 + (1 : Int32))
def F_X7_digest_L220 (n : Nat) (S : aSt) (a0 : Nat) (K286 : Int64 → Option Int64) : Nat → Int64 → Int32 → Option Int64
  | 0, _, _ => none
  | fu + 1, l220_1, l220_3 =>
    if (6 : Int32) ≤ l220_3 then (K286 l220_1) else
    rfd (S.2.2 a0 0) 7 fun k232 =>
    grd (inb l220_3 (SH k232).2) <|
    nm (((31 : Int64) * l220_1) + (S.1 k232 l220_3.toNatClampNeg).toInt64) fun v239 =>
    jn (fun (x280_1 : Int64) => (F_X7_digest_L220 n S a0 K286 fu x280_1 (l220_3 + (1 : Int32)) : Option Int64)) fun K280 =>
    F_X7_digest_L243 S a0 l220_3 k232 K280 n v239 (0 : Int32)
def F_X7_digest_L174 (S : aSt) (a0 : Nat) (K218 : Int64 → Option Int64) : Nat → Int64 → Int32 → Option Int64
  | 0, _, _ => none
  | fu + 1, l174_1, l174_3 =>
    if (3 : Int32) ≤ l174_3 then (K218 l174_1) else
    rfd (S.2.2 a0 6) 8 fun k185 =>
    grd (inb l174_3 (SH k185).2) <|
    jn (fun (j209s1 : Int32) => (nm (((31 : Int64) * l174_1) + j209s1.toInt64) fun v211 =>
    F_X7_digest_L174 S a0 K218 fu v211 (l174_3 + (1 : Int32)) : Option Int64)) fun K209 =>
    if (S.1 k185 l174_3.toNatClampNeg) = 0 then (K209 (-1 : Int32)) else
    rfd (S.2.2 a0 5) 7 fun k194 =>
    grd (inb (((393 : Int32) * l174_3) + (2 : Int32)) (SH k194).2) <|
    K209 (S.1 k194 (((393 : Int32) * l174_3) + (2 : Int32)).toNatClampNeg)
def F_X7_digest_L139 (S : aSt) (a0 : Nat) (K172 : Int64 → Option Int64) : Nat → Int64 → Int32 → Option Int64
  | 0, _, _ => none
  | fu + 1, l139_1, l139_3 =>
    rfd (S.2.2 a0 4) 7 fun k141 =>
    grd (inb (2 : Int32) (SH k141).2) <|
    if (S.1 k141 (2 : Int32).toNatClampNeg) ≤ l139_3 then (K172 l139_1) else
    grd (inb ((73 : Int32) + l139_3) (SH k141).2) <|
    nm (((31 : Int64) * l139_1) + (S.1 k141 ((73 : Int32) + l139_3).toNatClampNeg).toInt64) fun v165 =>
    F_X7_digest_L139 S a0 K172 fu v165 (l139_3 + (1 : Int32))
def F_X7_digest_L95 (S : aSt) (l82_3 : Int32) (k84 : Nat) (K131 : Int64 → Option Int64) : Nat → Int64 → Int32 → Option Int64
  | 0, _, _ => none
  | fu + 1, l95_1, l95_4 =>
    if (6 : Int32) ≤ l95_4 then (K131 l95_1) else
    grd (inb (((31 : Int32) + ((7 : Int32) * l95_4)) + l82_3) (SH k84).2) <|
    nm (((31 : Int64) * l95_1) + (S.1 k84 (((31 : Int32) + ((7 : Int32) * l95_4)) + l82_3).toNatClampNeg).toInt64) fun v124 =>
    F_X7_digest_L95 S l82_3 k84 K131 fu v124 (l95_4 + (1 : Int32))
def F_X7_digest_L82 (n : Nat) (S : aSt) (a0 : Nat) (K137 : Int64 → Option Int64) : Nat → Int64 → Int32 → Option Int64
  | 0, _, _ => none
  | fu + 1, l82_1, l82_3 =>
    rfd (S.2.2 a0 4) 7 fun k84 =>
    grd (inb (1 : Int32) (SH k84).2) <|
    if (S.1 k84 (1 : Int32).toNatClampNeg) ≤ l82_3 then (K137 l82_1) else
    jn (fun (x131_1 : Int64) => (F_X7_digest_L82 n S a0 K137 fu x131_1 (l82_3 + (1 : Int32)) : Option Int64)) fun K131 =>
    F_X7_digest_L95 S l82_3 k84 K131 n l82_1 (0 : Int32)
def F_X7_digest_L46 (n : Nat) (S : aSt) (a0 : Nat) (l33_3 : Int32) (K74 : Int64 → Option Int64) : Nat → Int64 → Int32 → Option Int64
  | 0, _, _ => none
  | fu + 1, l46_1, l46_4 =>
    if (6 : Int32) ≤ l46_4 then (K74 l46_1) else
    (F_X7_toldCard n S a0 l33_3 l46_4).bind fun r62 =>
    nm (((31 : Int64) * l46_1) + r62.toInt64) fun v67 =>
    F_X7_digest_L46 n S a0 l33_3 K74 fu v67 (l46_4 + (1 : Int32))
def F_X7_digest_L33 (n : Nat) (S : aSt) (a0 : Nat) (K80 : Int64 → Option Int64) : Nat → Int64 → Int32 → Option Int64
  | 0, _, _ => none
  | fu + 1, l33_1, l33_3 =>
    rfd (S.2.2 a0 4) 7 fun k35 =>
    grd (inb (0 : Int32) (SH k35).2) <|
    if (S.1 k35 (0 : Int32).toNatClampNeg) ≤ l33_3 then (K80 l33_1) else
    jn (fun (x74_1 : Int64) => (F_X7_digest_L33 n S a0 K80 fu x74_1 (l33_3 + (1 : Int32)) : Option Int64)) fun K74 =>
    F_X7_digest_L46 n S a0 l33_3 K74 n l33_1 (0 : Int32)
def F_X7_digest_L6 (n : Nat) (S : aSt) (a0 : Nat) (K31 : Int64 → Option Int64) : Nat → Int64 → Int32 → Option Int64
  | 0, _, _ => none
  | fu + 1, l6_1, l6_3 =>
    if (9 : Int32) ≤ l6_3 then (K31 l6_1) else
    (F_X7_counted n S a0 l6_3).bind fun r19 =>
    nm (((31 : Int64) * l6_1) + r19.toInt64) fun v24 =>
    F_X7_digest_L6 n S a0 K31 fu v24 (l6_3 + (1 : Int32))
def F_X7_digest (n : Nat) (S : aSt) (a0 : Nat) : Option Int64 :=
jn (fun (x31_1 : Int64) => (jn (fun (x80_1 : Int64) => (jn (fun (x137_1 : Int64) => (jn (fun (x172_1 : Int64) => (jn (fun (x218_1 : Int64) => (jn (fun (x286_1 : Int64) => (jn (fun (x353_1 : Int64) => (some x353_1 : Option Int64)) fun K353 =>
F_X7_digest_L288 n S a0 K353 n x286_1 (0 : Int32) : Option Int64)) fun K286 =>
F_X7_digest_L220 n S a0 K286 n x218_1 (0 : Int32) : Option Int64)) fun K218 =>
F_X7_digest_L174 S a0 K218 n x172_1 (0 : Int32) : Option Int64)) fun K172 =>
F_X7_digest_L139 S a0 K172 n x137_1 (0 : Int32) : Option Int64)) fun K137 =>
F_X7_digest_L82 n S a0 K137 n x80_1 (0 : Int32) : Option Int64)) fun K80 =>
F_X7_digest_L33 n S a0 K80 n x31_1 (0 : Int32) : Option Int64)) fun K31 =>
F_X7_digest_L6 n S a0 K31 n (17 : Int64) (0 : Int32)
set_option maxHeartbeats 4000000 in
set_option maxRecDepth 100000 in
theorem C_X7_digest (G : aG) (l : Launch) (n : Nat) (S : aSt) (a0 : Nat) (r : Int64) (ha0 : isT a0 6 = true) (hf : F_X7_digest n S a0 = some r) : Ctr G l yX7_digest mX7_digest (rmM 4) 97 97 S [.ref a0] (some (.long r)) S := by
  refine Ctr.of (by decide) rfl rfl (Nat.le_of_ble_eq_true rfl) [(0, .ref a0)] rfl ?_
  unfold F_X7_digest at hf
  refine Go.ldc2 (17 : Int64) 3 rfl dX7_digest_0 (am_mem 1249 (by decide +kernel) rfl) ?_
  refine Go.lstore_n 4 [(1, .long (17 : Int64)), (0, .ref a0)] rfl dX7_digest_3 (by decide) rfl ?_
  refine Go.iconst (0 : Int32) 5 rfl dX7_digest_4 ci_0 ?_
  refine Go.istore_n 6 [(3, .int (0 : Int32)), (1, .long (17 : Int64)), (0, .ref a0)] rfl dX7_digest_5 (by decide) rfl ?_
  obtain ⟨K31, eK31, hf⟩ := f_jn hf
  have J31 : ∀ (x31_1 : Int64), K31 x31_1 = some r → GoM G l 4 (TmR G (some (.long r)) 97 S 0 0) mX7_digest 31 [(0, .ref a0), (1, .long x31_1)] [] S := by
    intro x31_1 hf
    rw [eK31] at hf
    refine Go.iconst (0 : Int32) 32 rfl dX7_digest_31 ci_0 ?_
    refine Go.istore_n 33 [(3, .int (0 : Int32)), (0, .ref a0), (1, .long x31_1)] rfl dX7_digest_32 (by decide) rfl ?_
    obtain ⟨K80, eK80, hf⟩ := f_jn hf
    have J80 : ∀ (x80_1 : Int64), K80 x80_1 = some r → GoM G l 4 (TmR G (some (.long r)) 97 S 0 0) mX7_digest 80 [(0, .ref a0), (1, .long x80_1)] [] S := by
      intro x80_1 hf
      rw [eK80] at hf
      refine Go.iconst (0 : Int32) 81 rfl dX7_digest_80 ci_0 ?_
      refine Go.istore_n 82 [(3, .int (0 : Int32)), (0, .ref a0), (1, .long x80_1)] rfl dX7_digest_81 (by decide) rfl ?_
      obtain ⟨K137, eK137, hf⟩ := f_jn hf
      have J137 : ∀ (x137_1 : Int64), K137 x137_1 = some r → GoM G l 4 (TmR G (some (.long r)) 97 S 0 0) mX7_digest 137 [(0, .ref a0), (1, .long x137_1)] [] S := by
        intro x137_1 hf
        rw [eK137] at hf
        refine Go.iconst (0 : Int32) 138 rfl dX7_digest_137 ci_0 ?_
        refine Go.istore_n 139 [(3, .int (0 : Int32)), (0, .ref a0), (1, .long x137_1)] rfl dX7_digest_138 (by decide) rfl ?_
        obtain ⟨K172, eK172, hf⟩ := f_jn hf
        have J172 : ∀ (x172_1 : Int64), K172 x172_1 = some r → GoM G l 4 (TmR G (some (.long r)) 97 S 0 0) mX7_digest 172 [(0, .ref a0), (1, .long x172_1)] [] S := by
          intro x172_1 hf
          rw [eK172] at hf
          refine Go.iconst (0 : Int32) 173 rfl dX7_digest_172 ci_0 ?_
          refine Go.istore_n 174 [(3, .int (0 : Int32)), (0, .ref a0), (1, .long x172_1)] rfl dX7_digest_173 (by decide) rfl ?_
          obtain ⟨K218, eK218, hf⟩ := f_jn hf
          have J218 : ∀ (x218_1 : Int64), K218 x218_1 = some r → GoM G l 4 (TmR G (some (.long r)) 97 S 0 0) mX7_digest 218 [(0, .ref a0), (1, .long x218_1)] [] S := by
            intro x218_1 hf
            rw [eK218] at hf
            refine Go.iconst (0 : Int32) 219 rfl dX7_digest_218 ci_0 ?_
            refine Go.istore_n 220 [(3, .int (0 : Int32)), (0, .ref a0), (1, .long x218_1)] rfl dX7_digest_219 (by decide) rfl ?_
            obtain ⟨K286, eK286, hf⟩ := f_jn hf
            have J286 : ∀ (x286_1 : Int64), K286 x286_1 = some r → GoM G l 4 (TmR G (some (.long r)) 97 S 0 0) mX7_digest 286 [(0, .ref a0), (1, .long x286_1)] [] S := by
              intro x286_1 hf
              rw [eK286] at hf
              refine Go.iconst (0 : Int32) 287 rfl dX7_digest_286 ci_0 ?_
              refine Go.istore_n 288 [(3, .int (0 : Int32)), (0, .ref a0), (1, .long x286_1)] rfl dX7_digest_287 (by decide) rfl ?_
              obtain ⟨K353, eK353, hf⟩ := f_jn hf
              have J353 : ∀ (x353_1 : Int64), K353 x353_1 = some r → GoM G l 4 (TmR G (some (.long r)) 97 S 0 0) mX7_digest 353 [(1, .long x353_1)] [] S := by
                intro x353_1 hf
                rw [eK353] at hf
                refine Go.lload_n 0 354 rfl dX7_digest_353 rfl ?_
                exact Go.lr rfl dX7_digest_354 hf
              clear eK353
              have L288 : ∀ (fu : Nat) (l288_1 : Int64) (l288_3 : Int32), F_X7_digest_L288 n S a0 K353 fu l288_1 l288_3 = some r → GoM G l 4 (TmR G (some (.long r)) 97 S 0 0) mX7_digest 288 [(0, .ref a0), (1, .long l288_1), (3, .int l288_3)] [] S := by
                intro fu
                induction fu with
                | zero => intro l288_1 l288_3 hf; rw [F_X7_digest_L288] at hf; cases hf
                | succ fu ih =>
                  intro l288_1 l288_3 hf
                  rw [F_X7_digest_L288] at hf
                  refine Go.iload_n 2 289 rfl dX7_digest_288 rfl ?_
                  refine Go.iconst (4 : Int32) 290 rfl dX7_digest_289 ci_4 ?_
                  refine Go.icmp_ge 353 293 rfl dX7_digest_290 rfl (fun hc => ?_) (fun hc => ?_)
                  · replace hf := f_if hf hc
                    exact Go.sub [1] [(1, .long l288_1)] rfl (J353 l288_1 hf)
                  · replace hf := f_el hf hc
                    refine Go.ldc2 (31 : Int64) 296 rfl dX7_digest_293 (am_mem 1250 (by decide +kernel) rfl) ?_
                    refine Go.lload_n 1 297 rfl dX7_digest_296 rfl ?_
                    refine Go.lmul 298 rfl dX7_digest_297 ?_
                    refine Go.aload_n 0 299 rfl dX7_digest_298 rfl ?_
                    obtain ⟨k299, qk299, hk299, hf⟩ := f_rfd hf
                    refine Go.getR 302 rfl dX7_digest_299 fl_X7_16 rfl (isT_lt ha0) (isT_sh ha0) qk299 ?_
                    refine Go.iload_n 2 303 rfl dX7_digest_302 rfl ?_
                    obtain ⟨g303, hf⟩ := f_grd hf
                    refine Go.iald 304 rfl dX7_digest_303 (isT_lt hk299) (isT_sh hk299) g303 ?_
                    refine Go.i2l 305 rfl dX7_digest_304 ?_
                    refine Go.ladd 306 rfl dX7_digest_305 ?_
                    obtain ⟨v306, ev306, hf⟩ := f_nm hf
                    refine Go.topl v306 ev306 ?_
                    refine Go.lstore_n 307 [(1, .long v306), (0, .ref a0), (3, .int l288_3)] rfl dX7_digest_306 (by decide) rfl ?_
                    refine Go.iconst (0 : Int32) 308 rfl dX7_digest_307 ci_0 ?_
                    refine Go.istore 310 [(4, .int (0 : Int32)), (1, .long v306), (0, .ref a0), (3, .int l288_3)] rfl dX7_digest_308 (by decide) rfl ?_
                    obtain ⟨K347, eK347, hf⟩ := f_jn hf
                    have J347 : ∀ (x347_1 : Int64), K347 x347_1 = some r → GoM G l 4 (TmR G (some (.long r)) 97 S 0 0) mX7_digest 347 [(0, .ref a0), (1, .long x347_1), (3, .int l288_3)] [] S := by
                      intro x347_1 hf
                      rw [eK347] at hf
                      refine Go.inc 2 350 (1 : Int32) [(3, .int (l288_3 + (1 : Int32))), (0, .ref a0), (1, .long x347_1)] rfl dX7_digest_347 rfl ci_1 (by decide) rfl ?_
                      refine Go.goto 288 dX7_digest_350 rfl ?_
                      exact Go.sub [1, 2, 0] [(0, .ref a0), (1, .long x347_1), (3, .int (l288_3 + (1 : Int32)))] rfl (ih x347_1 (l288_3 + (1 : Int32)) hf)
                    clear eK347
                    have L310 : ∀ (fu : Nat) (l310_1 : Int64) (l310_4 : Int32), F_X7_digest_L310 S a0 l288_3 k299 K347 fu l310_1 l310_4 = some r → GoM G l 4 (TmR G (some (.long r)) 97 S 0 0) mX7_digest 310 [(0, .ref a0), (1, .long l310_1), (3, .int l288_3), (4, .int l310_4)] [] S := by
                      intro fu
                      induction fu with
                      | zero => intro l310_1 l310_4 hf; rw [F_X7_digest_L310] at hf; cases hf
                      | succ fu ih =>
                        intro l310_1 l310_4 hf
                        rw [F_X7_digest_L310] at hf
                        refine Go.iload 3 312 rfl dX7_digest_310 rfl ?_
                        refine Go.aload_n 0 313 rfl dX7_digest_312 rfl ?_
                        refine Go.getR 316 rfl dX7_digest_313 fl_X7_16 rfl (isT_lt ha0) (isT_sh ha0) qk299 ?_
                        refine Go.iload_n 2 317 rfl dX7_digest_316 rfl ?_
                        obtain ⟨g317, hf⟩ := f_grd hf
                        refine Go.iald 318 rfl dX7_digest_317 (isT_lt hk299) (isT_sh hk299) g317 ?_
                        refine Go.icmp_ge 347 321 rfl dX7_digest_318 rfl (fun hc => ?_) (fun hc => ?_)
                        · replace hf := f_if hf hc
                          exact Go.sub [0, 1, 2] [(0, .ref a0), (1, .long l310_1), (3, .int l288_3)] rfl (J347 l310_1 hf)
                        · replace hf := f_el hf hc
                          refine Go.ldc2 (31 : Int64) 324 rfl dX7_digest_321 (am_mem 1250 (by decide +kernel) rfl) ?_
                          refine Go.lload_n 1 325 rfl dX7_digest_324 rfl ?_
                          refine Go.lmul 326 rfl dX7_digest_325 ?_
                          refine Go.aload_n 0 327 rfl dX7_digest_326 rfl ?_
                          obtain ⟨k327, qk327, hk327, hf⟩ := f_rfd hf
                          refine Go.getR 330 rfl dX7_digest_327 fl_X7_19 rfl (isT_lt ha0) (isT_sh ha0) qk327 ?_
                          refine Go.bipush (80 : Int32) 332 rfl dX7_digest_330 cb_80 ?_
                          refine Go.iload_n 2 333 rfl dX7_digest_332 rfl ?_
                          refine Go.imul 334 rfl dX7_digest_333 ?_
                          refine Go.iload 3 336 rfl dX7_digest_334 rfl ?_
                          refine Go.iadd 337 rfl dX7_digest_336 ?_
                          obtain ⟨g337, hf⟩ := f_grd hf
                          refine Go.iald 338 rfl dX7_digest_337 (isT_lt hk327) (isT_sh hk327) g337 ?_
                          refine Go.i2l 339 rfl dX7_digest_338 ?_
                          refine Go.ladd 340 rfl dX7_digest_339 ?_
                          obtain ⟨v340, ev340, hf⟩ := f_nm hf
                          refine Go.topl v340 ev340 ?_
                          refine Go.lstore_n 341 [(1, .long v340), (0, .ref a0), (3, .int l288_3), (4, .int l310_4)] rfl dX7_digest_340 (by decide) rfl ?_
                          refine Go.inc 3 344 (1 : Int32) [(4, .int (l310_4 + (1 : Int32))), (1, .long v340), (0, .ref a0), (3, .int l288_3)] rfl dX7_digest_341 rfl ci_1 (by decide) rfl ?_
                          refine Go.goto 310 dX7_digest_344 rfl ?_
                          exact Go.sub [2, 1, 3, 0] [(0, .ref a0), (1, .long v340), (3, .int l288_3), (4, .int (l310_4 + (1 : Int32)))] rfl (ih v340 (l310_4 + (1 : Int32)) hf)
                    exact Go.sub [2, 1, 3, 0] [(0, .ref a0), (1, .long v306), (3, .int l288_3), (4, .int (0 : Int32))] rfl (L310 n v306 (0 : Int32) hf)
              exact Go.sub [1, 2, 0] [(0, .ref a0), (1, .long x286_1), (3, .int (0 : Int32))] rfl (L288 n x286_1 (0 : Int32) hf)
            clear eK286
            have L220 : ∀ (fu : Nat) (l220_1 : Int64) (l220_3 : Int32), F_X7_digest_L220 n S a0 K286 fu l220_1 l220_3 = some r → GoM G l 4 (TmR G (some (.long r)) 97 S 0 0) mX7_digest 220 [(0, .ref a0), (1, .long l220_1), (3, .int l220_3)] [] S := by
              intro fu
              induction fu with
              | zero => intro l220_1 l220_3 hf; rw [F_X7_digest_L220] at hf; cases hf
              | succ fu ih =>
                intro l220_1 l220_3 hf
                rw [F_X7_digest_L220] at hf
                refine Go.iload_n 2 221 rfl dX7_digest_220 rfl ?_
                refine Go.bipush (6 : Int32) 223 rfl dX7_digest_221 cb_6 ?_
                refine Go.icmp_ge 286 226 rfl dX7_digest_223 rfl (fun hc => ?_) (fun hc => ?_)
                · replace hf := f_if hf hc
                  exact Go.sub [0, 1] [(0, .ref a0), (1, .long l220_1)] rfl (J286 l220_1 hf)
                · replace hf := f_el hf hc
                  refine Go.ldc2 (31 : Int64) 229 rfl dX7_digest_226 (am_mem 1250 (by decide +kernel) rfl) ?_
                  refine Go.lload_n 1 230 rfl dX7_digest_229 rfl ?_
                  refine Go.lmul 231 rfl dX7_digest_230 ?_
                  refine Go.aload_n 0 232 rfl dX7_digest_231 rfl ?_
                  obtain ⟨k232, qk232, hk232, hf⟩ := f_rfd hf
                  refine Go.getR 235 rfl dX7_digest_232 fl_X7_7 rfl (isT_lt ha0) (isT_sh ha0) qk232 ?_
                  refine Go.iload_n 2 236 rfl dX7_digest_235 rfl ?_
                  obtain ⟨g236, hf⟩ := f_grd hf
                  refine Go.iald 237 rfl dX7_digest_236 (isT_lt hk232) (isT_sh hk232) g236 ?_
                  refine Go.i2l 238 rfl dX7_digest_237 ?_
                  refine Go.ladd 239 rfl dX7_digest_238 ?_
                  obtain ⟨v239, ev239, hf⟩ := f_nm hf
                  refine Go.topl v239 ev239 ?_
                  refine Go.lstore_n 240 [(1, .long v239), (0, .ref a0), (3, .int l220_3)] rfl dX7_digest_239 (by decide) rfl ?_
                  refine Go.iconst (0 : Int32) 241 rfl dX7_digest_240 ci_0 ?_
                  refine Go.istore 243 [(4, .int (0 : Int32)), (1, .long v239), (0, .ref a0), (3, .int l220_3)] rfl dX7_digest_241 (by decide) rfl ?_
                  obtain ⟨K280, eK280, hf⟩ := f_jn hf
                  have J280 : ∀ (x280_1 : Int64), K280 x280_1 = some r → GoM G l 4 (TmR G (some (.long r)) 97 S 0 0) mX7_digest 280 [(0, .ref a0), (1, .long x280_1), (3, .int l220_3)] [] S := by
                    intro x280_1 hf
                    rw [eK280] at hf
                    refine Go.inc 2 283 (1 : Int32) [(3, .int (l220_3 + (1 : Int32))), (0, .ref a0), (1, .long x280_1)] rfl dX7_digest_280 rfl ci_1 (by decide) rfl ?_
                    refine Go.goto 220 dX7_digest_283 rfl ?_
                    exact Go.sub [1, 2, 0] [(0, .ref a0), (1, .long x280_1), (3, .int (l220_3 + (1 : Int32)))] rfl (ih x280_1 (l220_3 + (1 : Int32)) hf)
                  clear eK280
                  have L243 : ∀ (fu : Nat) (l243_1 : Int64) (l243_4 : Int32), F_X7_digest_L243 S a0 l220_3 k232 K280 fu l243_1 l243_4 = some r → GoM G l 4 (TmR G (some (.long r)) 97 S 0 0) mX7_digest 243 [(0, .ref a0), (1, .long l243_1), (3, .int l220_3), (4, .int l243_4)] [] S := by
                    intro fu
                    induction fu with
                    | zero => intro l243_1 l243_4 hf; rw [F_X7_digest_L243] at hf; cases hf
                    | succ fu ih =>
                      intro l243_1 l243_4 hf
                      rw [F_X7_digest_L243] at hf
                      refine Go.iload 3 245 rfl dX7_digest_243 rfl ?_
                      refine Go.aload_n 0 246 rfl dX7_digest_245 rfl ?_
                      refine Go.getR 249 rfl dX7_digest_246 fl_X7_7 rfl (isT_lt ha0) (isT_sh ha0) qk232 ?_
                      refine Go.iload_n 2 250 rfl dX7_digest_249 rfl ?_
                      obtain ⟨g250, hf⟩ := f_grd hf
                      refine Go.iald 251 rfl dX7_digest_250 (isT_lt hk232) (isT_sh hk232) g250 ?_
                      refine Go.icmp_ge 280 254 rfl dX7_digest_251 rfl (fun hc => ?_) (fun hc => ?_)
                      · replace hf := f_if hf hc
                        exact Go.sub [0, 1, 2] [(0, .ref a0), (1, .long l243_1), (3, .int l220_3)] rfl (J280 l243_1 hf)
                      · replace hf := f_el hf hc
                        refine Go.ldc2 (31 : Int64) 257 rfl dX7_digest_254 (am_mem 1250 (by decide +kernel) rfl) ?_
                        refine Go.lload_n 1 258 rfl dX7_digest_257 rfl ?_
                        refine Go.lmul 259 rfl dX7_digest_258 ?_
                        refine Go.aload_n 0 260 rfl dX7_digest_259 rfl ?_
                        obtain ⟨k260, qk260, hk260, hf⟩ := f_rfd hf
                        refine Go.getR 263 rfl dX7_digest_260 fl_X7_13 rfl (isT_lt ha0) (isT_sh ha0) qk260 ?_
                        refine Go.bipush (40 : Int32) 265 rfl dX7_digest_263 cb_40 ?_
                        refine Go.iload_n 2 266 rfl dX7_digest_265 rfl ?_
                        refine Go.imul 267 rfl dX7_digest_266 ?_
                        refine Go.iload 3 269 rfl dX7_digest_267 rfl ?_
                        refine Go.iadd 270 rfl dX7_digest_269 ?_
                        obtain ⟨g270, hf⟩ := f_grd hf
                        refine Go.iald 271 rfl dX7_digest_270 (isT_lt hk260) (isT_sh hk260) g270 ?_
                        refine Go.i2l 272 rfl dX7_digest_271 ?_
                        refine Go.ladd 273 rfl dX7_digest_272 ?_
                        obtain ⟨v273, ev273, hf⟩ := f_nm hf
                        refine Go.topl v273 ev273 ?_
                        refine Go.lstore_n 274 [(1, .long v273), (0, .ref a0), (3, .int l220_3), (4, .int l243_4)] rfl dX7_digest_273 (by decide) rfl ?_
                        refine Go.inc 3 277 (1 : Int32) [(4, .int (l243_4 + (1 : Int32))), (1, .long v273), (0, .ref a0), (3, .int l220_3)] rfl dX7_digest_274 rfl ci_1 (by decide) rfl ?_
                        refine Go.goto 243 dX7_digest_277 rfl ?_
                        exact Go.sub [2, 1, 3, 0] [(0, .ref a0), (1, .long v273), (3, .int l220_3), (4, .int (l243_4 + (1 : Int32)))] rfl (ih v273 (l243_4 + (1 : Int32)) hf)
                  exact Go.sub [2, 1, 3, 0] [(0, .ref a0), (1, .long v239), (3, .int l220_3), (4, .int (0 : Int32))] rfl (L243 n v239 (0 : Int32) hf)
            exact Go.sub [1, 2, 0] [(0, .ref a0), (1, .long x218_1), (3, .int (0 : Int32))] rfl (L220 n x218_1 (0 : Int32) hf)
          clear eK218
          have L174 : ∀ (fu : Nat) (l174_1 : Int64) (l174_3 : Int32), F_X7_digest_L174 S a0 K218 fu l174_1 l174_3 = some r → GoM G l 4 (TmR G (some (.long r)) 97 S 0 0) mX7_digest 174 [(0, .ref a0), (1, .long l174_1), (3, .int l174_3)] [] S := by
            intro fu
            induction fu with
            | zero => intro l174_1 l174_3 hf; rw [F_X7_digest_L174] at hf; cases hf
            | succ fu ih =>
              intro l174_1 l174_3 hf
              rw [F_X7_digest_L174] at hf
              refine Go.iload_n 2 175 rfl dX7_digest_174 rfl ?_
              refine Go.iconst (3 : Int32) 176 rfl dX7_digest_175 ci_3 ?_
              refine Go.icmp_ge 218 179 rfl dX7_digest_176 rfl (fun hc => ?_) (fun hc => ?_)
              · replace hf := f_if hf hc
                exact Go.sub [0, 1] [(0, .ref a0), (1, .long l174_1)] rfl (J218 l174_1 hf)
              · replace hf := f_el hf hc
                refine Go.ldc2 (31 : Int64) 182 rfl dX7_digest_179 (am_mem 1250 (by decide +kernel) rfl) ?_
                refine Go.lload_n 1 183 rfl dX7_digest_182 rfl ?_
                refine Go.lmul 184 rfl dX7_digest_183 ?_
                refine Go.aload_n 0 185 rfl dX7_digest_184 rfl ?_
                obtain ⟨k185, qk185, hk185, hf⟩ := f_rfd hf
                refine Go.getR 188 rfl dX7_digest_185 fl_X7_28 rfl (isT_lt ha0) (isT_sh ha0) qk185 ?_
                refine Go.iload_n 2 189 rfl dX7_digest_188 rfl ?_
                obtain ⟨g189, hf⟩ := f_grd hf
                refine Go.zald 190 rfl dX7_digest_189 (isT_lt hk185) (isT_sh hk185) g189 ?_
                obtain ⟨K209, eK209, hf⟩ := f_jn hf
                have J209 : ∀ (j209s1 : Int32), K209 j209s1 = some r → GoM G l 4 (TmR G (some (.long r)) 97 S 0 0) mX7_digest 209 [(0, .ref a0), (3, .int l174_3)] [.int j209s1, .long ((31 : Int64) * l174_1)] S := by
                  intro j209s1 hf
                  rw [eK209] at hf
                  refine Go.i2l 210 rfl dX7_digest_209 ?_
                  refine Go.ladd 211 rfl dX7_digest_210 ?_
                  obtain ⟨v211, ev211, hf⟩ := f_nm hf
                  refine Go.topl v211 ev211 ?_
                  refine Go.lstore_n 212 [(1, .long v211), (0, .ref a0), (3, .int l174_3)] rfl dX7_digest_211 (by decide) rfl ?_
                  refine Go.inc 2 215 (1 : Int32) [(3, .int (l174_3 + (1 : Int32))), (1, .long v211), (0, .ref a0)] rfl dX7_digest_212 rfl ci_1 (by decide) rfl ?_
                  refine Go.goto 174 dX7_digest_215 rfl ?_
                  exact Go.sub [2, 1, 0] [(0, .ref a0), (1, .long v211), (3, .int (l174_3 + (1 : Int32)))] rfl (ih v211 (l174_3 + (1 : Int32)) hf)
                clear eK209
                refine Go.if_eq 208 193 rfl dX7_digest_190 rfl (fun hc => ?_) (fun hc => ?_)
                · replace hf := f_if hf hc
                  refine Go.iconst (-1 : Int32) 209 rfl dX7_digest_208 ci_m1 ?_
                  exact Go.sub [0, 2] [(0, .ref a0), (3, .int l174_3)] rfl (J209 (-1 : Int32) hf)
                · replace hf := f_el hf hc
                  refine Go.aload_n 0 194 rfl dX7_digest_193 rfl ?_
                  obtain ⟨k194, qk194, hk194, hf⟩ := f_rfd hf
                  refine Go.getR 197 rfl dX7_digest_194 fl_X7_25 rfl (isT_lt ha0) (isT_sh ha0) qk194 ?_
                  refine Go.sipush (393 : Int32) 200 rfl dX7_digest_197 cs_393 ?_
                  refine Go.iload_n 2 201 rfl dX7_digest_200 rfl ?_
                  refine Go.imul 202 rfl dX7_digest_201 ?_
                  refine Go.iconst (2 : Int32) 203 rfl dX7_digest_202 ci_2 ?_
                  refine Go.iadd 204 rfl dX7_digest_203 ?_
                  obtain ⟨g204, hf⟩ := f_grd hf
                  refine Go.iald 205 rfl dX7_digest_204 (isT_lt hk194) (isT_sh hk194) g204 ?_
                  refine Go.goto 209 dX7_digest_205 rfl ?_
                  exact Go.sub [0, 2] [(0, .ref a0), (3, .int l174_3)] rfl (J209 (S.1 k194 (((393 : Int32) * l174_3) + (2 : Int32)).toNatClampNeg) hf)
          exact Go.sub [1, 2, 0] [(0, .ref a0), (1, .long x172_1), (3, .int (0 : Int32))] rfl (L174 n x172_1 (0 : Int32) hf)
        clear eK172
        have L139 : ∀ (fu : Nat) (l139_1 : Int64) (l139_3 : Int32), F_X7_digest_L139 S a0 K172 fu l139_1 l139_3 = some r → GoM G l 4 (TmR G (some (.long r)) 97 S 0 0) mX7_digest 139 [(0, .ref a0), (1, .long l139_1), (3, .int l139_3)] [] S := by
          intro fu
          induction fu with
          | zero => intro l139_1 l139_3 hf; rw [F_X7_digest_L139] at hf; cases hf
          | succ fu ih =>
            intro l139_1 l139_3 hf
            rw [F_X7_digest_L139] at hf
            refine Go.iload_n 2 140 rfl dX7_digest_139 rfl ?_
            refine Go.aload_n 0 141 rfl dX7_digest_140 rfl ?_
            obtain ⟨k141, qk141, hk141, hf⟩ := f_rfd hf
            refine Go.getR 144 rfl dX7_digest_141 fl_X7_22 rfl (isT_lt ha0) (isT_sh ha0) qk141 ?_
            refine Go.iconst (2 : Int32) 145 rfl dX7_digest_144 ci_2 ?_
            obtain ⟨g145, hf⟩ := f_grd hf
            refine Go.iald 146 rfl dX7_digest_145 (isT_lt hk141) (isT_sh hk141) g145 ?_
            refine Go.icmp_ge 172 149 rfl dX7_digest_146 rfl (fun hc => ?_) (fun hc => ?_)
            · replace hf := f_if hf hc
              exact Go.sub [0, 1] [(0, .ref a0), (1, .long l139_1)] rfl (J172 l139_1 hf)
            · replace hf := f_el hf hc
              refine Go.ldc2 (31 : Int64) 152 rfl dX7_digest_149 (am_mem 1250 (by decide +kernel) rfl) ?_
              refine Go.lload_n 1 153 rfl dX7_digest_152 rfl ?_
              refine Go.lmul 154 rfl dX7_digest_153 ?_
              refine Go.aload_n 0 155 rfl dX7_digest_154 rfl ?_
              refine Go.getR 158 rfl dX7_digest_155 fl_X7_22 rfl (isT_lt ha0) (isT_sh ha0) qk141 ?_
              refine Go.bipush (73 : Int32) 160 rfl dX7_digest_158 cb_73 ?_
              refine Go.iload_n 2 161 rfl dX7_digest_160 rfl ?_
              refine Go.iadd 162 rfl dX7_digest_161 ?_
              obtain ⟨g162, hf⟩ := f_grd hf
              refine Go.iald 163 rfl dX7_digest_162 (isT_lt hk141) (isT_sh hk141) g162 ?_
              refine Go.i2l 164 rfl dX7_digest_163 ?_
              refine Go.ladd 165 rfl dX7_digest_164 ?_
              obtain ⟨v165, ev165, hf⟩ := f_nm hf
              refine Go.topl v165 ev165 ?_
              refine Go.lstore_n 166 [(1, .long v165), (0, .ref a0), (3, .int l139_3)] rfl dX7_digest_165 (by decide) rfl ?_
              refine Go.inc 2 169 (1 : Int32) [(3, .int (l139_3 + (1 : Int32))), (1, .long v165), (0, .ref a0)] rfl dX7_digest_166 rfl ci_1 (by decide) rfl ?_
              refine Go.goto 139 dX7_digest_169 rfl ?_
              exact Go.sub [2, 1, 0] [(0, .ref a0), (1, .long v165), (3, .int (l139_3 + (1 : Int32)))] rfl (ih v165 (l139_3 + (1 : Int32)) hf)
        exact Go.sub [1, 2, 0] [(0, .ref a0), (1, .long x137_1), (3, .int (0 : Int32))] rfl (L139 n x137_1 (0 : Int32) hf)
      clear eK137
      have L82 : ∀ (fu : Nat) (l82_1 : Int64) (l82_3 : Int32), F_X7_digest_L82 n S a0 K137 fu l82_1 l82_3 = some r → GoM G l 4 (TmR G (some (.long r)) 97 S 0 0) mX7_digest 82 [(0, .ref a0), (1, .long l82_1), (3, .int l82_3)] [] S := by
        intro fu
        induction fu with
        | zero => intro l82_1 l82_3 hf; rw [F_X7_digest_L82] at hf; cases hf
        | succ fu ih =>
          intro l82_1 l82_3 hf
          rw [F_X7_digest_L82] at hf
          refine Go.iload_n 2 83 rfl dX7_digest_82 rfl ?_
          refine Go.aload_n 0 84 rfl dX7_digest_83 rfl ?_
          obtain ⟨k84, qk84, hk84, hf⟩ := f_rfd hf
          refine Go.getR 87 rfl dX7_digest_84 fl_X7_22 rfl (isT_lt ha0) (isT_sh ha0) qk84 ?_
          refine Go.iconst (1 : Int32) 88 rfl dX7_digest_87 ci_1 ?_
          obtain ⟨g88, hf⟩ := f_grd hf
          refine Go.iald 89 rfl dX7_digest_88 (isT_lt hk84) (isT_sh hk84) g88 ?_
          refine Go.icmp_ge 137 92 rfl dX7_digest_89 rfl (fun hc => ?_) (fun hc => ?_)
          · replace hf := f_if hf hc
            exact Go.sub [0, 1] [(0, .ref a0), (1, .long l82_1)] rfl (J137 l82_1 hf)
          · replace hf := f_el hf hc
            refine Go.iconst (0 : Int32) 93 rfl dX7_digest_92 ci_0 ?_
            refine Go.istore 95 [(4, .int (0 : Int32)), (0, .ref a0), (1, .long l82_1), (3, .int l82_3)] rfl dX7_digest_93 (by decide) rfl ?_
            obtain ⟨K131, eK131, hf⟩ := f_jn hf
            have J131 : ∀ (x131_1 : Int64), K131 x131_1 = some r → GoM G l 4 (TmR G (some (.long r)) 97 S 0 0) mX7_digest 131 [(0, .ref a0), (1, .long x131_1), (3, .int l82_3)] [] S := by
              intro x131_1 hf
              rw [eK131] at hf
              refine Go.inc 2 134 (1 : Int32) [(3, .int (l82_3 + (1 : Int32))), (0, .ref a0), (1, .long x131_1)] rfl dX7_digest_131 rfl ci_1 (by decide) rfl ?_
              refine Go.goto 82 dX7_digest_134 rfl ?_
              exact Go.sub [1, 2, 0] [(0, .ref a0), (1, .long x131_1), (3, .int (l82_3 + (1 : Int32)))] rfl (ih x131_1 (l82_3 + (1 : Int32)) hf)
            clear eK131
            have L95 : ∀ (fu : Nat) (l95_1 : Int64) (l95_4 : Int32), F_X7_digest_L95 S l82_3 k84 K131 fu l95_1 l95_4 = some r → GoM G l 4 (TmR G (some (.long r)) 97 S 0 0) mX7_digest 95 [(0, .ref a0), (1, .long l95_1), (3, .int l82_3), (4, .int l95_4)] [] S := by
              intro fu
              induction fu with
              | zero => intro l95_1 l95_4 hf; rw [F_X7_digest_L95] at hf; cases hf
              | succ fu ih =>
                intro l95_1 l95_4 hf
                rw [F_X7_digest_L95] at hf
                refine Go.iload 3 97 rfl dX7_digest_95 rfl ?_
                refine Go.bipush (6 : Int32) 99 rfl dX7_digest_97 cb_6 ?_
                refine Go.icmp_ge 131 102 rfl dX7_digest_99 rfl (fun hc => ?_) (fun hc => ?_)
                · replace hf := f_if hf hc
                  exact Go.sub [0, 1, 2] [(0, .ref a0), (1, .long l95_1), (3, .int l82_3)] rfl (J131 l95_1 hf)
                · replace hf := f_el hf hc
                  refine Go.ldc2 (31 : Int64) 105 rfl dX7_digest_102 (am_mem 1250 (by decide +kernel) rfl) ?_
                  refine Go.lload_n 1 106 rfl dX7_digest_105 rfl ?_
                  refine Go.lmul 107 rfl dX7_digest_106 ?_
                  refine Go.aload_n 0 108 rfl dX7_digest_107 rfl ?_
                  refine Go.getR 111 rfl dX7_digest_108 fl_X7_22 rfl (isT_lt ha0) (isT_sh ha0) qk84 ?_
                  refine Go.bipush (31 : Int32) 113 rfl dX7_digest_111 cb_31 ?_
                  refine Go.bipush (7 : Int32) 115 rfl dX7_digest_113 cb_7 ?_
                  refine Go.iload 3 117 rfl dX7_digest_115 rfl ?_
                  refine Go.imul 118 rfl dX7_digest_117 ?_
                  refine Go.iadd 119 rfl dX7_digest_118 ?_
                  refine Go.iload_n 2 120 rfl dX7_digest_119 rfl ?_
                  refine Go.iadd 121 rfl dX7_digest_120 ?_
                  obtain ⟨g121, hf⟩ := f_grd hf
                  refine Go.iald 122 rfl dX7_digest_121 (isT_lt hk84) (isT_sh hk84) g121 ?_
                  refine Go.i2l 123 rfl dX7_digest_122 ?_
                  refine Go.ladd 124 rfl dX7_digest_123 ?_
                  obtain ⟨v124, ev124, hf⟩ := f_nm hf
                  refine Go.topl v124 ev124 ?_
                  refine Go.lstore_n 125 [(1, .long v124), (0, .ref a0), (3, .int l82_3), (4, .int l95_4)] rfl dX7_digest_124 (by decide) rfl ?_
                  refine Go.inc 3 128 (1 : Int32) [(4, .int (l95_4 + (1 : Int32))), (1, .long v124), (0, .ref a0), (3, .int l82_3)] rfl dX7_digest_125 rfl ci_1 (by decide) rfl ?_
                  refine Go.goto 95 dX7_digest_128 rfl ?_
                  exact Go.sub [2, 1, 3, 0] [(0, .ref a0), (1, .long v124), (3, .int l82_3), (4, .int (l95_4 + (1 : Int32)))] rfl (ih v124 (l95_4 + (1 : Int32)) hf)
            exact Go.sub [1, 2, 3, 0] [(0, .ref a0), (1, .long l82_1), (3, .int l82_3), (4, .int (0 : Int32))] rfl (L95 n l82_1 (0 : Int32) hf)
      exact Go.sub [1, 2, 0] [(0, .ref a0), (1, .long x80_1), (3, .int (0 : Int32))] rfl (L82 n x80_1 (0 : Int32) hf)
    clear eK80
    have L33 : ∀ (fu : Nat) (l33_1 : Int64) (l33_3 : Int32), F_X7_digest_L33 n S a0 K80 fu l33_1 l33_3 = some r → GoM G l 4 (TmR G (some (.long r)) 97 S 0 0) mX7_digest 33 [(0, .ref a0), (1, .long l33_1), (3, .int l33_3)] [] S := by
      intro fu
      induction fu with
      | zero => intro l33_1 l33_3 hf; rw [F_X7_digest_L33] at hf; cases hf
      | succ fu ih =>
        intro l33_1 l33_3 hf
        rw [F_X7_digest_L33] at hf
        refine Go.iload_n 2 34 rfl dX7_digest_33 rfl ?_
        refine Go.aload_n 0 35 rfl dX7_digest_34 rfl ?_
        obtain ⟨k35, qk35, hk35, hf⟩ := f_rfd hf
        refine Go.getR 38 rfl dX7_digest_35 fl_X7_22 rfl (isT_lt ha0) (isT_sh ha0) qk35 ?_
        refine Go.iconst (0 : Int32) 39 rfl dX7_digest_38 ci_0 ?_
        obtain ⟨g39, hf⟩ := f_grd hf
        refine Go.iald 40 rfl dX7_digest_39 (isT_lt hk35) (isT_sh hk35) g39 ?_
        refine Go.icmp_ge 80 43 rfl dX7_digest_40 rfl (fun hc => ?_) (fun hc => ?_)
        · replace hf := f_if hf hc
          exact Go.sub [0, 1] [(0, .ref a0), (1, .long l33_1)] rfl (J80 l33_1 hf)
        · replace hf := f_el hf hc
          refine Go.iconst (0 : Int32) 44 rfl dX7_digest_43 ci_0 ?_
          refine Go.istore 46 [(4, .int (0 : Int32)), (0, .ref a0), (1, .long l33_1), (3, .int l33_3)] rfl dX7_digest_44 (by decide) rfl ?_
          obtain ⟨K74, eK74, hf⟩ := f_jn hf
          have J74 : ∀ (x74_1 : Int64), K74 x74_1 = some r → GoM G l 4 (TmR G (some (.long r)) 97 S 0 0) mX7_digest 74 [(0, .ref a0), (1, .long x74_1), (3, .int l33_3)] [] S := by
            intro x74_1 hf
            rw [eK74] at hf
            refine Go.inc 2 77 (1 : Int32) [(3, .int (l33_3 + (1 : Int32))), (0, .ref a0), (1, .long x74_1)] rfl dX7_digest_74 rfl ci_1 (by decide) rfl ?_
            refine Go.goto 33 dX7_digest_77 rfl ?_
            exact Go.sub [1, 2, 0] [(0, .ref a0), (1, .long x74_1), (3, .int (l33_3 + (1 : Int32)))] rfl (ih x74_1 (l33_3 + (1 : Int32)) hf)
          clear eK74
          have L46 : ∀ (fu : Nat) (l46_1 : Int64) (l46_4 : Int32), F_X7_digest_L46 n S a0 l33_3 K74 fu l46_1 l46_4 = some r → GoM G l 4 (TmR G (some (.long r)) 97 S 0 0) mX7_digest 46 [(0, .ref a0), (1, .long l46_1), (3, .int l33_3), (4, .int l46_4)] [] S := by
            intro fu
            induction fu with
            | zero => intro l46_1 l46_4 hf; rw [F_X7_digest_L46] at hf; cases hf
            | succ fu ih =>
              intro l46_1 l46_4 hf
              rw [F_X7_digest_L46] at hf
              refine Go.iload 3 48 rfl dX7_digest_46 rfl ?_
              refine Go.bipush (6 : Int32) 50 rfl dX7_digest_48 cb_6 ?_
              refine Go.icmp_ge 74 53 rfl dX7_digest_50 rfl (fun hc => ?_) (fun hc => ?_)
              · replace hf := f_if hf hc
                exact Go.sub [0, 1, 2] [(0, .ref a0), (1, .long l46_1), (3, .int l33_3)] rfl (J74 l46_1 hf)
              · replace hf := f_el hf hc
                refine Go.ldc2 (31 : Int64) 56 rfl dX7_digest_53 (am_mem 1250 (by decide +kernel) rfl) ?_
                refine Go.lload_n 1 57 rfl dX7_digest_56 rfl ?_
                refine Go.lmul 58 rfl dX7_digest_57 ?_
                refine Go.aload_n 0 59 rfl dX7_digest_58 rfl ?_
                refine Go.iload_n 2 60 rfl dX7_digest_59 rfl ?_
                refine Go.iload 3 62 rfl dX7_digest_60 rfl ?_
                obtain ⟨r62, er62, hf⟩ := f_bnd hf
                refine Go.cV 65 [.int l33_3, .int l46_4] [.long ((31 : Int64) * l46_1)] (C_X7_toldCard G l n S a0 l33_3 l46_4 r62 ha0 er62) rfl dX7_digest_62 cv_X7_132 ha0 (by decide) (by decide) rfl (Nat.le_of_ble_eq_true rfl) ?_
                refine Go.i2l 66 rfl dX7_digest_65 ?_
                refine Go.ladd 67 rfl dX7_digest_66 ?_
                obtain ⟨v67, ev67, hf⟩ := f_nm hf
                refine Go.topl v67 ev67 ?_
                refine Go.lstore_n 68 [(1, .long v67), (0, .ref a0), (3, .int l33_3), (4, .int l46_4)] rfl dX7_digest_67 (by decide) rfl ?_
                refine Go.inc 3 71 (1 : Int32) [(4, .int (l46_4 + (1 : Int32))), (1, .long v67), (0, .ref a0), (3, .int l33_3)] rfl dX7_digest_68 rfl ci_1 (by decide) rfl ?_
                refine Go.goto 46 dX7_digest_71 rfl ?_
                exact Go.sub [2, 1, 3, 0] [(0, .ref a0), (1, .long v67), (3, .int l33_3), (4, .int (l46_4 + (1 : Int32)))] rfl (ih v67 (l46_4 + (1 : Int32)) hf)
          exact Go.sub [1, 2, 3, 0] [(0, .ref a0), (1, .long l33_1), (3, .int l33_3), (4, .int (0 : Int32))] rfl (L46 n l33_1 (0 : Int32) hf)
    exact Go.sub [1, 2, 0] [(0, .ref a0), (1, .long x31_1), (3, .int (0 : Int32))] rfl (L33 n x31_1 (0 : Int32) hf)
  clear eK31
  have L6 : ∀ (fu : Nat) (l6_1 : Int64) (l6_3 : Int32), F_X7_digest_L6 n S a0 K31 fu l6_1 l6_3 = some r → GoM G l 4 (TmR G (some (.long r)) 97 S 0 0) mX7_digest 6 [(0, .ref a0), (1, .long l6_1), (3, .int l6_3)] [] S := by
    intro fu
    induction fu with
    | zero => intro l6_1 l6_3 hf; rw [F_X7_digest_L6] at hf; cases hf
    | succ fu ih =>
      intro l6_1 l6_3 hf
      rw [F_X7_digest_L6] at hf
      refine Go.iload_n 2 7 rfl dX7_digest_6 rfl ?_
      refine Go.bipush (9 : Int32) 9 rfl dX7_digest_7 cb_9 ?_
      refine Go.icmp_ge 31 12 rfl dX7_digest_9 rfl (fun hc => ?_) (fun hc => ?_)
      · replace hf := f_if hf hc
        exact Go.sub [0, 1] [(0, .ref a0), (1, .long l6_1)] rfl (J31 l6_1 hf)
      · replace hf := f_el hf hc
        refine Go.ldc2 (31 : Int64) 15 rfl dX7_digest_12 (am_mem 1250 (by decide +kernel) rfl) ?_
        refine Go.lload_n 1 16 rfl dX7_digest_15 rfl ?_
        refine Go.lmul 17 rfl dX7_digest_16 ?_
        refine Go.aload_n 0 18 rfl dX7_digest_17 rfl ?_
        refine Go.iload_n 2 19 rfl dX7_digest_18 rfl ?_
        obtain ⟨r19, er19, hf⟩ := f_bnd hf
        refine Go.cV 22 [.int l6_3] [.long ((31 : Int64) * l6_1)] (C_X7_counted G l n S a0 l6_3 r19 ha0 er19) rfl dX7_digest_19 cv_X7_225 ha0 (by decide) (by decide) rfl (Nat.le_of_ble_eq_true rfl) ?_
        refine Go.i2l 23 rfl dX7_digest_22 ?_
        refine Go.ladd 24 rfl dX7_digest_23 ?_
        obtain ⟨v24, ev24, hf⟩ := f_nm hf
        refine Go.topl v24 ev24 ?_
        refine Go.lstore_n 25 [(1, .long v24), (0, .ref a0), (3, .int l6_3)] rfl dX7_digest_24 (by decide) rfl ?_
        refine Go.inc 2 28 (1 : Int32) [(3, .int (l6_3 + (1 : Int32))), (1, .long v24), (0, .ref a0)] rfl dX7_digest_25 rfl ci_1 (by decide) rfl ?_
        refine Go.goto 6 dX7_digest_28 rfl ?_
        exact Go.sub [2, 1, 0] [(0, .ref a0), (1, .long v24), (3, .int (l6_3 + (1 : Int32)))] rfl (ih v24 (l6_3 + (1 : Int32)) hf)
  exact Go.sub [2, 1, 0] [(0, .ref a0), (1, .long (17 : Int64)), (3, .int (0 : Int32))] rfl (L6 n (17 : Int64) (0 : Int32) hf)
