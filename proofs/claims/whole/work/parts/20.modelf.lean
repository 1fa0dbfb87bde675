/-! written by program: X7_finds X7_left X7_forged X7_lesser X7_manyThere X7_manyHere X7_beside X7_lying -/
theorem dX7_finds_0 : decode cX7_finds 0 = .ok (.iload_n 1, 1) := by decide +kernel
theorem dX7_finds_1 : decode cX7_finds 1 = .ok (.i2l, 1) := by decide +kernel
theorem dX7_finds_2 : decode cX7_finds 2 = .ok (.lconst 1, 1) := by decide +kernel
theorem dX7_finds_3 : decode cX7_finds 3 = .ok (.iconst 1, 1) := by decide +kernel
theorem dX7_finds_4 : decode cX7_finds 4 = .ok (.aload_n 0, 1) := by decide +kernel
theorem dX7_finds_5 : decode cX7_finds 5 = .ok (.getfield 22, 3) := by decide +kernel
theorem dX7_finds_8 : decode cX7_finds 8 = .ok (.iconst 0, 1) := by decide +kernel
theorem dX7_finds_9 : decode cX7_finds 9 = .ok (.iaload, 1) := by decide +kernel
theorem dX7_finds_10 : decode cX7_finds 10 = .ok (.ishl, 1) := by decide +kernel
theorem dX7_finds_11 : decode cX7_finds 11 = .ok (.iconst 1, 1) := by decide +kernel
theorem dX7_finds_12 : decode cX7_finds 12 = .ok (.isub, 1) := by decide +kernel
theorem dX7_finds_13 : decode cX7_finds 13 = .ok (.i2l, 1) := by decide +kernel
theorem dX7_finds_14 : decode cX7_finds 14 = .ok (.invokestatic 66, 3) := by decide +kernel
theorem dX7_finds_17 : decode cX7_finds 17 = .ok (.ifCond .ne 5, 3) := by decide +kernel
theorem dX7_finds_20 : decode cX7_finds 20 = .ok (.iconst (-1), 1) := by decide +kernel
theorem dX7_finds_21 : decode cX7_finds 21 = .ok (.ireturn, 1) := by decide +kernel
theorem dX7_finds_22 : decode cX7_finds 22 = .ok (.iconst 1, 1) := by decide +kernel
theorem dX7_finds_23 : decode cX7_finds 23 = .ok (.istore_n 2, 1) := by decide +kernel
theorem dX7_finds_24 : decode cX7_finds 24 = .ok (.iload_n 2, 1) := by decide +kernel
theorem dX7_finds_25 : decode cX7_finds 25 = .ok (.iload_n 1, 1) := by decide +kernel
theorem dX7_finds_26 : decode cX7_finds 26 = .ok (.if_icmp .gt 163, 3) := by decide +kernel
theorem dX7_finds_29 : decode cX7_finds 29 = .ok (.iload_n 2, 1) := by decide +kernel
theorem dX7_finds_30 : decode cX7_finds 30 = .ok (.invokestatic 195, 3) := by decide +kernel
theorem dX7_finds_33 : decode cX7_finds 33 = .ok (.ifCond .eq 7, 3) := by decide +kernel
theorem dX7_finds_36 : decode cX7_finds 36 = .ok (.iconst 0, 1) := by decide +kernel
theorem dX7_finds_37 : decode cX7_finds 37 = .ok (.goto 5, 3) := by decide +kernel
theorem dX7_finds_40 : decode cX7_finds 40 = .ok (.bipush 99, 2) := by decide +kernel
theorem dX7_finds_42 : decode cX7_finds 42 = .ok (.istore_n 3, 1) := by decide +kernel
theorem dX7_finds_43 : decode cX7_finds 43 = .ok (.bipush (-9), 2) := by decide +kernel
theorem dX7_finds_45 : decode cX7_finds 45 = .ok (.istore 4, 2) := by decide +kernel
theorem dX7_finds_47 : decode cX7_finds 47 = .ok (.iconst 0, 1) := by decide +kernel
theorem dX7_finds_48 : decode cX7_finds 48 = .ok (.istore 5, 2) := by decide +kernel
theorem dX7_finds_50 : decode cX7_finds 50 = .ok (.iload 5, 2) := by decide +kernel
theorem dX7_finds_52 : decode cX7_finds 52 = .ok (.aload_n 0, 1) := by decide +kernel
theorem dX7_finds_53 : decode cX7_finds 53 = .ok (.getfield 22, 3) := by decide +kernel
theorem dX7_finds_56 : decode cX7_finds 56 = .ok (.iconst 1, 1) := by decide +kernel
theorem dX7_finds_57 : decode cX7_finds 57 = .ok (.iaload, 1) := by decide +kernel
theorem dX7_finds_58 : decode cX7_finds 58 = .ok (.if_icmp .ge 110, 3) := by decide +kernel
theorem dX7_finds_61 : decode cX7_finds 61 = .ok (.iload_n 2, 1) := by decide +kernel
theorem dX7_finds_62 : decode cX7_finds 62 = .ok (.invokestatic 195, 3) := by decide +kernel
theorem dX7_finds_65 : decode cX7_finds 65 = .ok (.ifCond .ne 103, 3) := by decide +kernel
theorem dX7_finds_68 : decode cX7_finds 68 = .ok (.iload_n 2, 1) := by decide +kernel
theorem dX7_finds_69 : decode cX7_finds 69 = .ok (.aload_n 0, 1) := by decide +kernel
theorem dX7_finds_70 : decode cX7_finds 70 = .ok (.iload 5, 2) := by decide +kernel
theorem dX7_finds_72 : decode cX7_finds 72 = .ok (.invokevirtual 198, 3) := by decide +kernel
theorem dX7_finds_75 : decode cX7_finds 75 = .ok (.iand, 1) := by decide +kernel
theorem dX7_finds_76 : decode cX7_finds 76 = .ok (.istore 6, 2) := by decide +kernel
theorem dX7_finds_78 : decode cX7_finds 78 = .ok (.iload_n 2, 1) := by decide +kernel
theorem dX7_finds_79 : decode cX7_finds 79 = .ok (.iload 6, 2) := by decide +kernel
theorem dX7_finds_81 : decode cX7_finds 81 = .ok (.iconst (-1), 1) := by decide +kernel
theorem dX7_finds_82 : decode cX7_finds 82 = .ok (.ixor, 1) := by decide +kernel
theorem dX7_finds_83 : decode cX7_finds 83 = .ok (.iand, 1) := by decide +kernel
theorem dX7_finds_84 : decode cX7_finds 84 = .ok (.istore 7, 2) := by decide +kernel
theorem dX7_finds_86 : decode cX7_finds 86 = .ok (.iload 6, 2) := by decide +kernel
theorem dX7_finds_88 : decode cX7_finds 88 = .ok (.ifCond .eq 74, 3) := by decide +kernel
theorem dX7_finds_91 : decode cX7_finds 91 = .ok (.iload 7, 2) := by decide +kernel
theorem dX7_finds_93 : decode cX7_finds 93 = .ok (.ifCond .eq 69, 3) := by decide +kernel
theorem dX7_finds_96 : decode cX7_finds 96 = .ok (.iconst 1, 1) := by decide +kernel
theorem dX7_finds_97 : decode cX7_finds 97 = .ok (.aload_n 0, 1) := by decide +kernel
theorem dX7_finds_98 : decode cX7_finds 98 = .ok (.getfield 51, 3) := by decide +kernel
theorem dX7_finds_101 : decode cX7_finds 101 = .ok (.iload 6, 2) := by decide +kernel
theorem dX7_finds_103 : decode cX7_finds 103 = .ok (.iaload, 1) := by decide +kernel
theorem dX7_finds_104 : decode cX7_finds 104 = .ok (.aload_n 0, 1) := by decide +kernel
theorem dX7_finds_105 : decode cX7_finds 105 = .ok (.getfield 51, 3) := by decide +kernel
theorem dX7_finds_108 : decode cX7_finds 108 = .ok (.iload 7, 2) := by decide +kernel
theorem dX7_finds_110 : decode cX7_finds 110 = .ok (.iaload, 1) := by decide +kernel
theorem dX7_finds_111 : decode cX7_finds 111 = .ok (.if_icmp .le 13, 3) := by decide +kernel
theorem dX7_finds_114 : decode cX7_finds 114 = .ok (.aload_n 0, 1) := by decide +kernel
theorem dX7_finds_115 : decode cX7_finds 115 = .ok (.getfield 51, 3) := by decide +kernel
theorem dX7_finds_118 : decode cX7_finds 118 = .ok (.iload 6, 2) := by decide +kernel
theorem dX7_finds_120 : decode cX7_finds 120 = .ok (.iaload, 1) := by decide +kernel
theorem dX7_finds_121 : decode cX7_finds 121 = .ok (.goto 10, 3) := by decide +kernel
theorem dX7_finds_124 : decode cX7_finds 124 = .ok (.aload_n 0, 1) := by decide +kernel
theorem dX7_finds_125 : decode cX7_finds 125 = .ok (.getfield 51, 3) := by decide +kernel
theorem dX7_finds_128 : decode cX7_finds 128 = .ok (.iload 7, 2) := by decide +kernel
theorem dX7_finds_130 : decode cX7_finds 130 = .ok (.iaload, 1) := by decide +kernel
theorem dX7_finds_131 : decode cX7_finds 131 = .ok (.iadd, 1) := by decide +kernel
theorem dX7_finds_132 : decode cX7_finds 132 = .ok (.istore 8, 2) := by decide +kernel
theorem dX7_finds_134 : decode cX7_finds 134 = .ok (.iload 8, 2) := by decide +kernel
theorem dX7_finds_136 : decode cX7_finds 136 = .ok (.iload_n 3, 1) := by decide +kernel
theorem dX7_finds_137 : decode cX7_finds 137 = .ok (.if_icmp .ge 8, 3) := by decide +kernel
theorem dX7_finds_140 : decode cX7_finds 140 = .ok (.iload 5, 2) := by decide +kernel
theorem dX7_finds_142 : decode cX7_finds 142 = .ok (.goto 5, 3) := by decide +kernel
theorem dX7_finds_145 : decode cX7_finds 145 = .ok (.iload 4, 2) := by decide +kernel
theorem dX7_finds_147 : decode cX7_finds 147 = .ok (.istore 4, 2) := by decide +kernel
theorem dX7_finds_149 : decode cX7_finds 149 = .ok (.iload 8, 2) := by decide +kernel
theorem dX7_finds_151 : decode cX7_finds 151 = .ok (.iload_n 3, 1) := by decide +kernel
theorem dX7_finds_152 : decode cX7_finds 152 = .ok (.if_icmp .ge 8, 3) := by decide +kernel
theorem dX7_finds_155 : decode cX7_finds 155 = .ok (.iload 8, 2) := by decide +kernel
theorem dX7_finds_157 : decode cX7_finds 157 = .ok (.goto 4, 3) := by decide +kernel
theorem dX7_finds_160 : decode cX7_finds 160 = .ok (.iload_n 3, 1) := by decide +kernel
theorem dX7_finds_161 : decode cX7_finds 161 = .ok (.istore_n 3, 1) := by decide +kernel
theorem dX7_finds_162 : decode cX7_finds 162 = .ok (.iinc 5 1, 3) := by decide +kernel
theorem dX7_finds_165 : decode cX7_finds 165 = .ok (.goto (-115), 3) := by decide +kernel
theorem dX7_finds_168 : decode cX7_finds 168 = .ok (.aload_n 0, 1) := by decide +kernel
theorem dX7_finds_169 : decode cX7_finds 169 = .ok (.getfield 51, 3) := by decide +kernel
theorem dX7_finds_172 : decode cX7_finds 172 = .ok (.iload_n 2, 1) := by decide +kernel
theorem dX7_finds_173 : decode cX7_finds 173 = .ok (.iload_n 3, 1) := by decide +kernel
theorem dX7_finds_174 : decode cX7_finds 174 = .ok (.iastore, 1) := by decide +kernel
theorem dX7_finds_175 : decode cX7_finds 175 = .ok (.aload_n 0, 1) := by decide +kernel
theorem dX7_finds_176 : decode cX7_finds 176 = .ok (.getfield 54, 3) := by decide +kernel
theorem dX7_finds_179 : decode cX7_finds 179 = .ok (.iload_n 2, 1) := by decide +kernel
theorem dX7_finds_180 : decode cX7_finds 180 = .ok (.iload 4, 2) := by decide +kernel
theorem dX7_finds_182 : decode cX7_finds 182 = .ok (.iastore, 1) := by decide +kernel
theorem dX7_finds_183 : decode cX7_finds 183 = .ok (.iinc 2 1, 3) := by decide +kernel
theorem dX7_finds_186 : decode cX7_finds 186 = .ok (.goto (-162), 3) := by decide +kernel
theorem dX7_finds_189 : decode cX7_finds 189 = .ok (.aload_n 0, 1) := by decide +kernel
theorem dX7_finds_190 : decode cX7_finds 190 = .ok (.getfield 51, 3) := by decide +kernel
theorem dX7_finds_193 : decode cX7_finds 193 = .ok (.iload_n 1, 1) := by decide +kernel
theorem dX7_finds_194 : decode cX7_finds 194 = .ok (.iaload, 1) := by decide +kernel
theorem dX7_finds_195 : decode cX7_finds 195 = .ok (.bipush 99, 2) := by decide +kernel
theorem dX7_finds_197 : decode cX7_finds 197 = .ok (.if_icmp .lt 6, 3) := by decide +kernel
theorem dX7_finds_200 : decode cX7_finds 200 = .ok (.bipush (-9), 2) := by decide +kernel
theorem dX7_finds_202 : decode cX7_finds 202 = .ok (.ireturn, 1) := by decide +kernel
theorem dX7_finds_203 : decode cX7_finds 203 = .ok (.aload_n 0, 1) := by decide +kernel
theorem dX7_finds_204 : decode cX7_finds 204 = .ok (.aload_n 0, 1) := by decide +kernel
theorem dX7_finds_205 : decode cX7_finds 205 = .ok (.getfield 54, 3) := by decide +kernel
theorem dX7_finds_208 : decode cX7_finds 208 = .ok (.iload_n 1, 1) := by decide +kernel
theorem dX7_finds_209 : decode cX7_finds 209 = .ok (.iaload, 1) := by decide +kernel
theorem dX7_finds_210 : decode cX7_finds 210 = .ok (.invokevirtual 80, 3) := by decide +kernel
theorem dX7_finds_213 : decode cX7_finds 213 = .ok (.istore_n 2, 1) := by decide +kernel
theorem dX7_finds_214 : decode cX7_finds 214 = .ok (.aload_n 0, 1) := by decide +kernel
theorem dX7_finds_215 : decode cX7_finds 215 = .ok (.getfield 51, 3) := by decide +kernel
theorem dX7_finds_218 : decode cX7_finds 218 = .ok (.iload_n 1, 1) := by decide +kernel
theorem dX7_finds_219 : decode cX7_finds 219 = .ok (.iaload, 1) := by decide +kernel
theorem dX7_finds_220 : decode cX7_finds 220 = .ok (.ireturn, 1) := by decide +kernel
def F_X7_finds_L50 (n : Nat) (a0 : Nat) (l24_2 : Int32) (l24S : aSt) (K168 : Int32 → Int32 → Option (Int32 × aSt)) : Nat → Int32 → Int32 → Int32 → Option (Int32 × aSt)
  | 0, _, _, _ => none
  | fu + 1, l50_3, l50_4, l50_5 =>
    rfd (l24S.2.2 a0 4) 7 fun k53 =>
    grd (inb (1 : Int32) (SH k53).2) <|
    if (l24S.1 k53 (1 : Int32).toNatClampNeg) ≤ l50_5 then (K168 l50_3 l50_4) else
    (F_X7_isOne n l24S l24_2).bind fun r62 =>
    if r62 = 0 then ((F_X7_fits n l24S a0 l50_5).bind fun r72 =>
    nm (l24_2 &&& r72) fun v76 =>
    nm (l24_2 &&& (v76 ^^^ (-1 : Int32))) fun v84 =>
    jn (fun (j162_3 : Int32) (j162_4 : Int32) => (F_X7_finds_L50 n a0 l24_2 l24S K168 fu j162_3 j162_4 (l50_5 + (1 : Int32)) : Option (Int32 × aSt))) fun K162 =>
    if v76 = 0 then (K162 l50_3 l50_4) else
    if v84 = 0 then (K162 l50_3 l50_4) else
    rfd (l24S.2.2 a0 19) 7 fun k98 =>
    grd (inb v76 (SH k98).2) <|
    grd (inb v84 (SH k98).2) <|
    jn (fun (j131s1 : Int32) => (nm ((1 : Int32) + j131s1) fun v132 =>
    jn (fun (j147s0 : Int32) => (jn (fun (j161s0 : Int32) => (K162 j161s0 j147s0 : Option (Int32 × aSt))) fun K161 =>
    if l50_3 ≤ v132 then (K161 l50_3) else
    K161 v132 : Option (Int32 × aSt))) fun K147 =>
    if l50_3 ≤ v132 then (K147 l50_4) else
    K147 l50_5 : Option (Int32 × aSt))) fun K131 =>
    if (l24S.1 k98 v76.toNatClampNeg) ≤ (l24S.1 k98 v84.toNatClampNeg) then (grd (inb v84 (SH k98).2) <|
    K131 (l24S.1 k98 v84.toNatClampNeg)) else
    grd (inb v76 (SH k98).2) <|
    K131 (l24S.1 k98 v76.toNatClampNeg)) else
    K168 l50_3 l50_4
def F_X7_finds_L24 (n : Nat) (a0 : Nat) (a1 : Int32) (K189 : aSt → Option (Int32 × aSt)) : Nat → Int32 → aSt → Option (Int32 × aSt)
  | 0, _, _ => none
  | fu + 1, l24_2, l24S =>
    if a1 < l24_2 then (K189 l24S) else
    (F_X7_isOne n l24S l24_2).bind fun r30 =>
    jn (fun (j42s0 : Int32) => (jn (fun (x168_3 : Int32) (x168_4 : Int32) => (rfd (l24S.2.2 a0 19) 7 fun k169 =>
    grd (inb l24_2 (SH k169).2) <|
    nm (stI l24S k169 l24_2.toNatClampNeg x168_3) fun S174 =>
    rfd (S174.2.2 a0 20) 7 fun k176 =>
    grd (inb l24_2 (SH k176).2) <|
    nm (stI S174 k176 l24_2.toNatClampNeg x168_4) fun S182 =>
    F_X7_finds_L24 n a0 a1 K189 fu (l24_2 + (1 : Int32)) S182 : Option (Int32 × aSt))) fun K168 =>
    F_X7_finds_L50 n a0 l24_2 l24S K168 n j42s0 (-9 : Int32) (0 : Int32) : Option (Int32 × aSt))) fun K42 =>
    if r30 = 0 then (K42 (99 : Int32)) else
    K42 (0 : Int32)
def F_X7_finds (n : Nat) (S : aSt) (a0 : Nat) (a1 : Int32) : Option (Int32 × aSt) :=
rfd (S.2.2 a0 4) 7 fun k5 =>
grd (inb (0 : Int32) (SH k5).2) <|
(F_X7_in n S a1.toInt64 (1 : Int64) (((1 : Int32) <<< ((S.1 k5 (0 : Int32).toNatClampNeg) &&& 31)) - (1 : Int32)).toInt64).bind fun r14 =>
if r14 = 0 then (some ((-1 : Int32), S)) else
jn (fun (x189S : aSt) => (rfd (x189S.2.2 a0 19) 7 fun k190 =>
grd (inb a1 (SH k190).2) <|
if (x189S.1 k190 a1.toNatClampNeg) < (99 : Int32) then (rfd (x189S.2.2 a0 20) 7 fun k205 =>
grd (inb a1 (SH k205).2) <|
bn2 (F_X7_tell n x189S a0 (x189S.1 k205 a1.toNatClampNeg)) fun r210 S210 =>
rfd (S210.2.2 a0 19) 7 fun k215 =>
grd (inb a1 (SH k215).2) <|
some ((S210.1 k215 a1.toNatClampNeg), S210)) else
some ((-9 : Int32), x189S) : Option (Int32 × aSt))) fun K189 =>
F_X7_finds_L24 n a0 a1 K189 n (1 : Int32) S
set_option maxHeartbeats 4000000 in
set_option maxRecDepth 100000 in
theorem C_X7_finds (G : aG) (l : Launch) (n : Nat) (S : aSt) (a0 : Nat) (a1 : Int32) (r : Int32) (Sr : aSt) (ha0 : isT a0 6 = true) (hf : F_X7_finds n S a0 a1 = some (r, Sr)) : Ctr G l yX7_finds mX7_finds (rmM 5) 97 97 S [.ref a0, .int a1] (some (.int r)) Sr := by
  refine Ctr.of (by decide) rfl rfl (Nat.le_of_ble_eq_true rfl) [(0, .ref a0), (1, .int a1)] rfl ?_
  unfold F_X7_finds at hf
  refine Go.iload_n 1 1 rfl dX7_finds_0 rfl ?_
  refine Go.i2l 2 rfl dX7_finds_1 ?_
  refine Go.lconst (1 : Int64) 3 rfl dX7_finds_2 cl_1 ?_
  refine Go.iconst (1 : Int32) 4 rfl dX7_finds_3 ci_1 ?_
  refine Go.aload_n 0 5 rfl dX7_finds_4 rfl ?_
  obtain ⟨k5, qk5, hk5, hf⟩ := f_rfd hf
  refine Go.getR 8 rfl dX7_finds_5 fl_X7_22 rfl (isT_lt ha0) (isT_sh ha0) qk5 ?_
  refine Go.iconst (0 : Int32) 9 rfl dX7_finds_8 ci_0 ?_
  obtain ⟨g9, hf⟩ := f_grd hf
  refine Go.iald 10 rfl dX7_finds_9 (isT_lt hk5) (isT_sh hk5) g9 ?_
  refine Go.ishl 11 rfl dX7_finds_10 ?_
  refine Go.iconst (1 : Int32) 12 rfl dX7_finds_11 ci_1 ?_
  refine Go.isub 13 rfl dX7_finds_12 ?_
  refine Go.i2l 14 rfl dX7_finds_13 ?_
  obtain ⟨r14, er14, hf⟩ := f_bnd hf
  refine Go.cS 17 [.long a1.toInt64, .long (1 : Int64), .long (((1 : Int32) <<< ((S.1 k5 (0 : Int32).toNatClampNeg) &&& 31)) - (1 : Int32)).toInt64] [] (C_X7_in G l n S a1.toInt64 (1 : Int64) (((1 : Int32) <<< ((S.1 k5 (0 : Int32).toNatClampNeg) &&& 31)) - (1 : Int32)).toInt64 r14  er14) rfl dX7_finds_14 cx_X7_66 (by decide) (by decide) rfl (Nat.le_of_ble_eq_true rfl) ?_
  refine Go.if_ne 22 20 rfl dX7_finds_17 rfl (fun hc => ?_) (fun hc => ?_)
  · replace hf := f_el hf hc
    refine Go.iconst (1 : Int32) 23 rfl dX7_finds_22 ci_1 ?_
    refine Go.istore_n 24 [(2, .int (1 : Int32)), (0, .ref a0), (1, .int a1)] rfl dX7_finds_23 (by decide) rfl ?_
    obtain ⟨K189, eK189, hf⟩ := f_jn hf
    have J189 : ∀ (x189S : aSt), K189 x189S = some (r, Sr) → GoM G l 5 (TmR G (some (.int r)) 97 Sr 0 0) mX7_finds 189 [(0, .ref a0), (1, .int a1)] [] x189S := by
      intro x189S hf
      rw [eK189] at hf
      refine Go.aload_n 0 190 rfl dX7_finds_189 rfl ?_
      obtain ⟨k190, qk190, hk190, hf⟩ := f_rfd hf
      refine Go.getR 193 rfl dX7_finds_190 fl_X7_51 rfl (isT_lt ha0) (isT_sh ha0) qk190 ?_
      refine Go.iload_n 1 194 rfl dX7_finds_193 rfl ?_
      obtain ⟨g194, hf⟩ := f_grd hf
      refine Go.iald 195 rfl dX7_finds_194 (isT_lt hk190) (isT_sh hk190) g194 ?_
      refine Go.bipush (99 : Int32) 197 rfl dX7_finds_195 cb_99 ?_
      refine Go.icmp_lt 203 200 rfl dX7_finds_197 rfl (fun hc => ?_) (fun hc => ?_)
      · replace hf := f_if hf hc
        refine Go.aload_n 0 204 rfl dX7_finds_203 rfl ?_
        refine Go.aload_n 0 205 rfl dX7_finds_204 rfl ?_
        obtain ⟨k205, qk205, hk205, hf⟩ := f_rfd hf
        refine Go.getR 208 rfl dX7_finds_205 fl_X7_54 rfl (isT_lt ha0) (isT_sh ha0) qk205 ?_
        refine Go.iload_n 1 209 rfl dX7_finds_208 rfl ?_
        obtain ⟨g209, hf⟩ := f_grd hf
        refine Go.iald 210 rfl dX7_finds_209 (isT_lt hk205) (isT_sh hk205) g209 ?_
        obtain ⟨r210, S210, er210, hf⟩ := f_bn2 hf
        refine Go.cV 213 [.int (x189S.1 k205 a1.toNatClampNeg)] [] (C_X7_tell G l n x189S a0 (x189S.1 k205 a1.toNatClampNeg) r210 S210 ha0 er210) rfl dX7_finds_210 cv_X7_80 ha0 (by decide) (by decide) rfl (Nat.le_of_ble_eq_true rfl) ?_
        refine Go.istore_n 214 [(2, .int r210), (0, .ref a0), (1, .int a1)] rfl dX7_finds_213 (by decide) rfl ?_
        refine Go.aload_n 1 215 rfl dX7_finds_214 rfl ?_
        obtain ⟨k215, qk215, hk215, hf⟩ := f_rfd hf
        refine Go.getR 218 rfl dX7_finds_215 fl_X7_51 rfl (isT_lt ha0) (isT_sh ha0) qk215 ?_
        refine Go.iload_n 2 219 rfl dX7_finds_218 rfl ?_
        obtain ⟨g219, hf⟩ := f_grd hf
        refine Go.iald 220 rfl dX7_finds_219 (isT_lt hk215) (isT_sh hk215) g219 ?_
        exact Go.irS rfl dX7_finds_220 hf
      · replace hf := f_el hf hc
        refine Go.bipush (-9 : Int32) 202 rfl dX7_finds_200 cb_m9 ?_
        exact Go.irS rfl dX7_finds_202 hf
    clear eK189
    have L24 : ∀ (fu : Nat) (l24_2 : Int32) (l24S : aSt), F_X7_finds_L24 n a0 a1 K189 fu l24_2 l24S = some (r, Sr) → GoM G l 5 (TmR G (some (.int r)) 97 Sr 0 0) mX7_finds 24 [(0, .ref a0), (1, .int a1), (2, .int l24_2)] [] l24S := by
      intro fu
      induction fu with
      | zero => intro l24_2 l24S hf; rw [F_X7_finds_L24] at hf; cases hf
      | succ fu ih =>
        intro l24_2 l24S hf
        rw [F_X7_finds_L24] at hf
        refine Go.iload_n 2 25 rfl dX7_finds_24 rfl ?_
        refine Go.iload_n 1 26 rfl dX7_finds_25 rfl ?_
        refine Go.icmp_gt 189 29 rfl dX7_finds_26 rfl (fun hc => ?_) (fun hc => ?_)
        · replace hf := f_if hf hc
          exact Go.sub [0, 1] [(0, .ref a0), (1, .int a1)] rfl (J189 l24S hf)
        · replace hf := f_el hf hc
          refine Go.iload_n 2 30 rfl dX7_finds_29 rfl ?_
          obtain ⟨r30, er30, hf⟩ := f_bnd hf
          refine Go.cS 33 [.int l24_2] [] (C_X7_isOne G l n l24S l24_2 r30  er30) rfl dX7_finds_30 cx_X7_195 (by decide) (by decide) rfl (Nat.le_of_ble_eq_true rfl) ?_
          obtain ⟨K42, eK42, hf⟩ := f_jn hf
          have J42 : ∀ (j42s0 : Int32), K42 j42s0 = some (r, Sr) → GoM G l 5 (TmR G (some (.int r)) 97 Sr 0 0) mX7_finds 42 [(0, .ref a0), (1, .int a1), (2, .int l24_2)] [.int j42s0] l24S := by
            intro j42s0 hf
            rw [eK42] at hf
            refine Go.istore_n 43 [(3, .int j42s0), (0, .ref a0), (1, .int a1), (2, .int l24_2)] rfl dX7_finds_42 (by decide) rfl ?_
            refine Go.bipush (-9 : Int32) 45 rfl dX7_finds_43 cb_m9 ?_
            refine Go.istore 47 [(4, .int (-9 : Int32)), (3, .int j42s0), (0, .ref a0), (1, .int a1), (2, .int l24_2)] rfl dX7_finds_45 (by decide) rfl ?_
            refine Go.iconst (0 : Int32) 48 rfl dX7_finds_47 ci_0 ?_
            refine Go.istore 50 [(5, .int (0 : Int32)), (4, .int (-9 : Int32)), (3, .int j42s0), (0, .ref a0), (1, .int a1), (2, .int l24_2)] rfl dX7_finds_48 (by decide) rfl ?_
            obtain ⟨K168, eK168, hf⟩ := f_jn hf
            have J168 : ∀ (x168_3 : Int32) (x168_4 : Int32), K168 x168_3 x168_4 = some (r, Sr) → GoM G l 5 (TmR G (some (.int r)) 97 Sr 0 0) mX7_finds 168 [(0, .ref a0), (1, .int a1), (2, .int l24_2), (3, .int x168_3), (4, .int x168_4)] [] l24S := by
              intro x168_3 x168_4 hf
              rw [eK168] at hf
              refine Go.aload_n 0 169 rfl dX7_finds_168 rfl ?_
              obtain ⟨k169, qk169, hk169, hf⟩ := f_rfd hf
              refine Go.getR 172 rfl dX7_finds_169 fl_X7_51 rfl (isT_lt ha0) (isT_sh ha0) qk169 ?_
              refine Go.iload_n 2 173 rfl dX7_finds_172 rfl ?_
              refine Go.iload_n 3 174 rfl dX7_finds_173 rfl ?_
              obtain ⟨g174, hf⟩ := f_grd hf
              obtain ⟨S174, eS174, hf⟩ := f_nm hf
              refine Go.iast 175 rfl dX7_finds_174 (isT_lt hk169) (isT_sh hk169) g174 (Go.stt S174 eS174 ?_)
              refine Go.aload_n 0 176 rfl dX7_finds_175 rfl ?_
              obtain ⟨k176, qk176, hk176, hf⟩ := f_rfd hf
              refine Go.getR 179 rfl dX7_finds_176 fl_X7_54 rfl (isT_lt ha0) (isT_sh ha0) qk176 ?_
              refine Go.iload_n 2 180 rfl dX7_finds_179 rfl ?_
              refine Go.iload 4 182 rfl dX7_finds_180 rfl ?_
              obtain ⟨g182, hf⟩ := f_grd hf
              obtain ⟨S182, eS182, hf⟩ := f_nm hf
              refine Go.iast 183 rfl dX7_finds_182 (isT_lt hk176) (isT_sh hk176) g182 (Go.stt S182 eS182 ?_)
              refine Go.inc 2 186 (1 : Int32) [(2, .int (l24_2 + (1 : Int32))), (0, .ref a0), (1, .int a1), (3, .int x168_3), (4, .int x168_4)] rfl dX7_finds_183 rfl ci_1 (by decide) rfl ?_
              refine Go.goto 24 dX7_finds_186 rfl ?_
              exact Go.sub [1, 2, 0] [(0, .ref a0), (1, .int a1), (2, .int (l24_2 + (1 : Int32)))] rfl (ih (l24_2 + (1 : Int32)) S182 hf)
            clear eK168
            have L50 : ∀ (fu : Nat) (l50_3 : Int32) (l50_4 : Int32) (l50_5 : Int32), F_X7_finds_L50 n a0 l24_2 l24S K168 fu l50_3 l50_4 l50_5 = some (r, Sr) → GoM G l 5 (TmR G (some (.int r)) 97 Sr 0 0) mX7_finds 50 [(0, .ref a0), (1, .int a1), (2, .int l24_2), (3, .int l50_3), (4, .int l50_4), (5, .int l50_5)] [] l24S := by
              intro fu
              induction fu with
              | zero => intro l50_3 l50_4 l50_5 hf; rw [F_X7_finds_L50] at hf; cases hf
              | succ fu ih =>
                intro l50_3 l50_4 l50_5 hf
                rw [F_X7_finds_L50] at hf
                refine Go.iload 5 52 rfl dX7_finds_50 rfl ?_
                refine Go.aload_n 0 53 rfl dX7_finds_52 rfl ?_
                obtain ⟨k53, qk53, hk53, hf⟩ := f_rfd hf
                refine Go.getR 56 rfl dX7_finds_53 fl_X7_22 rfl (isT_lt ha0) (isT_sh ha0) qk53 ?_
                refine Go.iconst (1 : Int32) 57 rfl dX7_finds_56 ci_1 ?_
                obtain ⟨g57, hf⟩ := f_grd hf
                refine Go.iald 58 rfl dX7_finds_57 (isT_lt hk53) (isT_sh hk53) g57 ?_
                refine Go.icmp_ge 168 61 rfl dX7_finds_58 rfl (fun hc => ?_) (fun hc => ?_)
                · replace hf := f_if hf hc
                  exact Go.sub [0, 1, 2, 3, 4] [(0, .ref a0), (1, .int a1), (2, .int l24_2), (3, .int l50_3), (4, .int l50_4)] rfl (J168 l50_3 l50_4 hf)
                · replace hf := f_el hf hc
                  refine Go.iload_n 2 62 rfl dX7_finds_61 rfl ?_
                  obtain ⟨r62, er62, hf⟩ := f_bnd hf
                  refine Go.cS 65 [.int l24_2] [] (C_X7_isOne G l n l24S l24_2 r62  er62) rfl dX7_finds_62 cx_X7_195 (by decide) (by decide) rfl (Nat.le_of_ble_eq_true rfl) ?_
                  refine Go.if_ne 168 68 rfl dX7_finds_65 rfl (fun hc => ?_) (fun hc => ?_)
                  · replace hf := f_el hf hc
                    exact Go.sub [0, 1, 2, 3, 4] [(0, .ref a0), (1, .int a1), (2, .int l24_2), (3, .int l50_3), (4, .int l50_4)] rfl (J168 l50_3 l50_4 hf)
                  · replace hf := f_if hf hc
                    refine Go.iload_n 2 69 rfl dX7_finds_68 rfl ?_
                    refine Go.aload_n 0 70 rfl dX7_finds_69 rfl ?_
                    refine Go.iload 5 72 rfl dX7_finds_70 rfl ?_
                    obtain ⟨r72, er72, hf⟩ := f_bnd hf
                    refine Go.cV 75 [.int l50_5] [.int l24_2] (C_X7_fits G l n l24S a0 l50_5 r72 ha0 er72) rfl dX7_finds_72 cv_X7_198 ha0 (by decide) (by decide) rfl (Nat.le_of_ble_eq_true rfl) ?_
                    refine Go.iand 76 rfl dX7_finds_75 ?_
                    obtain ⟨v76, ev76, hf⟩ := f_nm hf
                    refine Go.topi v76 ev76 ?_
                    refine Go.istore 78 [(6, .int v76), (0, .ref a0), (1, .int a1), (2, .int l24_2), (3, .int l50_3), (4, .int l50_4), (5, .int l50_5)] rfl dX7_finds_76 (by decide) rfl ?_
                    refine Go.iload_n 3 79 rfl dX7_finds_78 rfl ?_
                    refine Go.iload 0 81 rfl dX7_finds_79 rfl ?_
                    refine Go.iconst (-1 : Int32) 82 rfl dX7_finds_81 ci_m1 ?_
                    refine Go.ixor 83 rfl dX7_finds_82 ?_
                    refine Go.iand 84 rfl dX7_finds_83 ?_
                    obtain ⟨v84, ev84, hf⟩ := f_nm hf
                    refine Go.topi v84 ev84 ?_
                    refine Go.istore 86 [(7, .int v84), (6, .int v76), (0, .ref a0), (1, .int a1), (2, .int l24_2), (3, .int l50_3), (4, .int l50_4), (5, .int l50_5)] rfl dX7_finds_84 (by decide) rfl ?_
                    refine Go.iload 1 88 rfl dX7_finds_86 rfl ?_
                    obtain ⟨K162, eK162, hf⟩ := f_jn hf
                    have J162 : ∀ (j162_3 : Int32) (j162_4 : Int32), K162 j162_3 j162_4 = some (r, Sr) → GoM G l 5 (TmR G (some (.int r)) 97 Sr 0 0) mX7_finds 162 [(0, .ref a0), (1, .int a1), (2, .int l24_2), (3, .int j162_3), (4, .int j162_4), (5, .int l50_5)] [] l24S := by
                      intro j162_3 j162_4 hf
                      rw [eK162] at hf
                      refine Go.inc 5 165 (1 : Int32) [(5, .int (l50_5 + (1 : Int32))), (0, .ref a0), (1, .int a1), (2, .int l24_2), (3, .int j162_3), (4, .int j162_4)] rfl dX7_finds_162 rfl ci_1 (by decide) rfl ?_
                      refine Go.goto 50 dX7_finds_165 rfl ?_
                      exact Go.sub [1, 2, 3, 4, 5, 0] [(0, .ref a0), (1, .int a1), (2, .int l24_2), (3, .int j162_3), (4, .int j162_4), (5, .int (l50_5 + (1 : Int32)))] rfl (ih j162_3 j162_4 (l50_5 + (1 : Int32)) hf)
                    clear eK162
                    refine Go.if_eq 162 91 rfl dX7_finds_88 rfl (fun hc => ?_) (fun hc => ?_)
                    · replace hf := f_if hf hc
                      exact Go.sub [2, 3, 4, 5, 6, 7] [(0, .ref a0), (1, .int a1), (2, .int l24_2), (3, .int l50_3), (4, .int l50_4), (5, .int l50_5)] rfl (J162 l50_3 l50_4 hf)
                    · replace hf := f_el hf hc
                      refine Go.iload 0 93 rfl dX7_finds_91 rfl ?_
                      refine Go.if_eq 162 96 rfl dX7_finds_93 rfl (fun hc => ?_) (fun hc => ?_)
                      · replace hf := f_if hf hc
                        exact Go.sub [2, 3, 4, 5, 6, 7] [(0, .ref a0), (1, .int a1), (2, .int l24_2), (3, .int l50_3), (4, .int l50_4), (5, .int l50_5)] rfl (J162 l50_3 l50_4 hf)
                      · replace hf := f_el hf hc
                        refine Go.iconst (1 : Int32) 97 rfl dX7_finds_96 ci_1 ?_
                        refine Go.aload_n 2 98 rfl dX7_finds_97 rfl ?_
                        obtain ⟨k98, qk98, hk98, hf⟩ := f_rfd hf
                        refine Go.getR 101 rfl dX7_finds_98 fl_X7_51 rfl (isT_lt ha0) (isT_sh ha0) qk98 ?_
                        refine Go.iload 1 103 rfl dX7_finds_101 rfl ?_
                        obtain ⟨g103, hf⟩ := f_grd hf
                        refine Go.iald 104 rfl dX7_finds_103 (isT_lt hk98) (isT_sh hk98) g103 ?_
                        refine Go.aload_n 2 105 rfl dX7_finds_104 rfl ?_
                        refine Go.getR 108 rfl dX7_finds_105 fl_X7_51 rfl (isT_lt ha0) (isT_sh ha0) qk98 ?_
                        refine Go.iload 0 110 rfl dX7_finds_108 rfl ?_
                        obtain ⟨g110, hf⟩ := f_grd hf
                        refine Go.iald 111 rfl dX7_finds_110 (isT_lt hk98) (isT_sh hk98) g110 ?_
                        obtain ⟨K131, eK131, hf⟩ := f_jn hf
                        have J131 : ∀ (j131s1 : Int32), K131 j131s1 = some (r, Sr) → GoM G l 5 (TmR G (some (.int r)) 97 Sr 0 0) mX7_finds 131 [(0, .ref a0), (1, .int a1), (2, .int l24_2), (3, .int l50_3), (4, .int l50_4), (5, .int l50_5)] [.int j131s1, .int (1 : Int32)] l24S := by
                          intro j131s1 hf
                          rw [eK131] at hf
                          refine Go.iadd 132 rfl dX7_finds_131 ?_
                          obtain ⟨v132, ev132, hf⟩ := f_nm hf
                          refine Go.topi v132 ev132 ?_
                          refine Go.istore 134 [(8, .int v132), (0, .ref a0), (1, .int a1), (2, .int l24_2), (3, .int l50_3), (4, .int l50_4), (5, .int l50_5)] rfl dX7_finds_132 (by decide) rfl ?_
                          refine Go.iload 0 136 rfl dX7_finds_134 rfl ?_
                          refine Go.iload_n 4 137 rfl dX7_finds_136 rfl ?_
                          obtain ⟨K147, eK147, hf⟩ := f_jn hf
                          have J147 : ∀ (j147s0 : Int32), K147 j147s0 = some (r, Sr) → GoM G l 5 (TmR G (some (.int r)) 97 Sr 0 0) mX7_finds 147 [(0, .ref a0), (1, .int a1), (2, .int l24_2), (3, .int l50_3), (5, .int l50_5), (8, .int v132)] [.int j147s0] l24S := by
                            intro j147s0 hf
                            rw [eK147] at hf
                            refine Go.istore 149 [(4, .int j147s0), (0, .ref a0), (1, .int a1), (2, .int l24_2), (3, .int l50_3), (5, .int l50_5), (8, .int v132)] rfl dX7_finds_147 (by decide) rfl ?_
                            refine Go.iload 6 151 rfl dX7_finds_149 rfl ?_
                            refine Go.iload_n 4 152 rfl dX7_finds_151 rfl ?_
                            obtain ⟨K161, eK161, hf⟩ := f_jn hf
                            have J161 : ∀ (j161s0 : Int32), K161 j161s0 = some (r, Sr) → GoM G l 5 (TmR G (some (.int r)) 97 Sr 0 0) mX7_finds 161 [(0, .ref a0), (1, .int a1), (2, .int l24_2), (4, .int j147s0), (5, .int l50_5)] [.int j161s0] l24S := by
                              intro j161s0 hf
                              rw [eK161] at hf
                              refine Go.istore_n 162 [(3, .int j161s0), (0, .ref a0), (1, .int a1), (2, .int l24_2), (4, .int j147s0), (5, .int l50_5)] rfl dX7_finds_161 (by decide) rfl ?_
                              exact Go.sub [1, 2, 3, 0, 4, 5] [(0, .ref a0), (1, .int a1), (2, .int l24_2), (3, .int j161s0), (4, .int j147s0), (5, .int l50_5)] rfl (J162 j161s0 j147s0 hf)
                            clear eK161
                            refine Go.icmp_ge 160 155 rfl dX7_finds_152 rfl (fun hc => ?_) (fun hc => ?_)
                            · replace hf := f_if hf hc
                              refine Go.iload_n 4 161 rfl dX7_finds_160 rfl ?_
                              exact Go.sub [1, 2, 3, 0, 5] [(0, .ref a0), (1, .int a1), (2, .int l24_2), (4, .int j147s0), (5, .int l50_5)] rfl (J161 l50_3 hf)
                            · replace hf := f_el hf hc
                              refine Go.iload 6 157 rfl dX7_finds_155 rfl ?_
                              refine Go.goto 161 dX7_finds_157 rfl ?_
                              exact Go.sub [1, 2, 3, 0, 5] [(0, .ref a0), (1, .int a1), (2, .int l24_2), (4, .int j147s0), (5, .int l50_5)] rfl (J161 v132 hf)
                          clear eK147
                          refine Go.icmp_ge 145 140 rfl dX7_finds_137 rfl (fun hc => ?_) (fun hc => ?_)
                          · replace hf := f_if hf hc
                            refine Go.iload 5 147 rfl dX7_finds_145 rfl ?_
                            exact Go.sub [1, 2, 3, 4, 6, 0] [(0, .ref a0), (1, .int a1), (2, .int l24_2), (3, .int l50_3), (5, .int l50_5), (8, .int v132)] rfl (J147 l50_4 hf)
                          · replace hf := f_el hf hc
                            refine Go.iload 6 142 rfl dX7_finds_140 rfl ?_
                            refine Go.goto 147 dX7_finds_142 rfl ?_
                            exact Go.sub [1, 2, 3, 4, 6, 0] [(0, .ref a0), (1, .int a1), (2, .int l24_2), (3, .int l50_3), (5, .int l50_5), (8, .int v132)] rfl (J147 l50_5 hf)
                        clear eK131
                        refine Go.icmp_le 124 114 rfl dX7_finds_111 rfl (fun hc => ?_) (fun hc => ?_)
                        · replace hf := f_if hf hc
                          refine Go.aload_n 2 125 rfl dX7_finds_124 rfl ?_
                          refine Go.getR 128 rfl dX7_finds_125 fl_X7_51 rfl (isT_lt ha0) (isT_sh ha0) qk98 ?_
                          refine Go.iload 0 130 rfl dX7_finds_128 rfl ?_
                          obtain ⟨g130, hf⟩ := f_grd hf
                          refine Go.iald 131 rfl dX7_finds_130 (isT_lt hk98) (isT_sh hk98) g130 ?_
                          exact Go.sub [2, 3, 4, 5, 6, 7] [(0, .ref a0), (1, .int a1), (2, .int l24_2), (3, .int l50_3), (4, .int l50_4), (5, .int l50_5)] rfl (J131 (l24S.1 k98 v84.toNatClampNeg) hf)
                        · replace hf := f_el hf hc
                          refine Go.aload_n 2 115 rfl dX7_finds_114 rfl ?_
                          refine Go.getR 118 rfl dX7_finds_115 fl_X7_51 rfl (isT_lt ha0) (isT_sh ha0) qk98 ?_
                          refine Go.iload 1 120 rfl dX7_finds_118 rfl ?_
                          obtain ⟨g120, hf⟩ := f_grd hf
                          refine Go.iald 121 rfl dX7_finds_120 (isT_lt hk98) (isT_sh hk98) g120 ?_
                          refine Go.goto 131 dX7_finds_121 rfl ?_
                          exact Go.sub [2, 3, 4, 5, 6, 7] [(0, .ref a0), (1, .int a1), (2, .int l24_2), (3, .int l50_3), (4, .int l50_4), (5, .int l50_5)] rfl (J131 (l24S.1 k98 v76.toNatClampNeg) hf)
            exact Go.sub [3, 4, 5, 2, 1, 0] [(0, .ref a0), (1, .int a1), (2, .int l24_2), (3, .int j42s0), (4, .int (-9 : Int32)), (5, .int (0 : Int32))] rfl (L50 n j42s0 (-9 : Int32) (0 : Int32) hf)
          clear eK42
          refine Go.if_eq 40 36 rfl dX7_finds_33 rfl (fun hc => ?_) (fun hc => ?_)
          · replace hf := f_if hf hc
            refine Go.bipush (99 : Int32) 42 rfl dX7_finds_40 cb_99 ?_
            exact J42 (99 : Int32) hf
          · replace hf := f_el hf hc
            refine Go.iconst (0 : Int32) 37 rfl dX7_finds_36 ci_0 ?_
            refine Go.goto 42 dX7_finds_37 rfl ?_
            exact J42 (0 : Int32) hf
    exact Go.sub [1, 2, 0] [(0, .ref a0), (1, .int a1), (2, .int (1 : Int32))] rfl (L24 n (1 : Int32) S hf)
  · replace hf := f_if hf hc
    refine Go.iconst (-1 : Int32) 21 rfl dX7_finds_20 ci_m1 ?_
    exact Go.irS rfl dX7_finds_21 hf
theorem dX7_left_0 : decode cX7_left 0 = .ok (.iload_n 1, 1) := by decide +kernel
theorem dX7_left_1 : decode cX7_left 1 = .ok (.invokestatic 72, 3) := by decide +kernel
theorem dX7_left_4 : decode cX7_left 4 = .ok (.ifCond .ne 5, 3) := by decide +kernel
theorem dX7_left_7 : decode cX7_left 7 = .ok (.iconst (-1), 1) := by decide +kernel
theorem dX7_left_8 : decode cX7_left 8 = .ok (.ireturn, 1) := by decide +kernel
theorem dX7_left_9 : decode cX7_left 9 = .ok (.aload_n 0, 1) := by decide +kernel
theorem dX7_left_10 : decode cX7_left 10 = .ok (.getfield 7, 3) := by decide +kernel
theorem dX7_left_13 : decode cX7_left 13 = .ok (.iload_n 1, 1) := by decide +kernel
theorem dX7_left_14 : decode cX7_left 14 = .ok (.iaload, 1) := by decide +kernel
theorem dX7_left_15 : decode cX7_left 15 = .ok (.ifCond .ge 9, 3) := by decide +kernel
theorem dX7_left_18 : decode cX7_left 18 = .ok (.aload_n 0, 1) := by decide +kernel
theorem dX7_left_19 : decode cX7_left 19 = .ok (.iconst 1, 1) := by decide +kernel
theorem dX7_left_20 : decode cX7_left 20 = .ok (.invokevirtual 76, 3) := by decide +kernel
theorem dX7_left_23 : decode cX7_left 23 = .ok (.ireturn, 1) := by decide +kernel
theorem dX7_left_24 : decode cX7_left 24 = .ok (.aload_n 0, 1) := by decide +kernel
theorem dX7_left_25 : decode cX7_left 25 = .ok (.getfield 7, 3) := by decide +kernel
theorem dX7_left_28 : decode cX7_left 28 = .ok (.iload_n 1, 1) := by decide +kernel
theorem dX7_left_29 : decode cX7_left 29 = .ok (.iaload, 1) := by decide +kernel
theorem dX7_left_30 : decode cX7_left 30 = .ok (.iconst 2, 1) := by decide +kernel
theorem dX7_left_31 : decode cX7_left 31 = .ok (.irem, 1) := by decide +kernel
theorem dX7_left_32 : decode cX7_left 32 = .ok (.iconst 1, 1) := by decide +kernel
theorem dX7_left_33 : decode cX7_left 33 = .ok (.if_icmp .ne 9, 3) := by decide +kernel
theorem dX7_left_36 : decode cX7_left 36 = .ok (.aload_n 0, 1) := by decide +kernel
theorem dX7_left_37 : decode cX7_left 37 = .ok (.iconst 5, 1) := by decide +kernel
theorem dX7_left_38 : decode cX7_left 38 = .ok (.invokevirtual 76, 3) := by decide +kernel
theorem dX7_left_41 : decode cX7_left 41 = .ok (.ireturn, 1) := by decide +kernel
theorem dX7_left_42 : decode cX7_left 42 = .ok (.iconst 1, 1) := by decide +kernel
theorem dX7_left_43 : decode cX7_left 43 = .ok (.aload_n 0, 1) := by decide +kernel
theorem dX7_left_44 : decode cX7_left 44 = .ok (.getfield 22, 3) := by decide +kernel
theorem dX7_left_47 : decode cX7_left 47 = .ok (.iconst 0, 1) := by decide +kernel
theorem dX7_left_48 : decode cX7_left 48 = .ok (.iaload, 1) := by decide +kernel
theorem dX7_left_49 : decode cX7_left 49 = .ok (.ishl, 1) := by decide +kernel
theorem dX7_left_50 : decode cX7_left 50 = .ok (.iconst 1, 1) := by decide +kernel
theorem dX7_left_51 : decode cX7_left 51 = .ok (.isub, 1) := by decide +kernel
theorem dX7_left_52 : decode cX7_left 52 = .ok (.istore_n 2, 1) := by decide +kernel
theorem dX7_left_53 : decode cX7_left 53 = .ok (.iconst 0, 1) := by decide +kernel
theorem dX7_left_54 : decode cX7_left 54 = .ok (.istore_n 3, 1) := by decide +kernel
theorem dX7_left_55 : decode cX7_left 55 = .ok (.iload_n 3, 1) := by decide +kernel
theorem dX7_left_56 : decode cX7_left 56 = .ok (.aload_n 0, 1) := by decide +kernel
theorem dX7_left_57 : decode cX7_left 57 = .ok (.getfield 7, 3) := by decide +kernel
theorem dX7_left_60 : decode cX7_left 60 = .ok (.iload_n 1, 1) := by decide +kernel
theorem dX7_left_61 : decode cX7_left 61 = .ok (.iaload, 1) := by decide +kernel
theorem dX7_left_62 : decode cX7_left 62 = .ok (.if_icmp .ge 89, 3) := by decide +kernel
theorem dX7_left_65 : decode cX7_left 65 = .ok (.aload_n 0, 1) := by decide +kernel
theorem dX7_left_66 : decode cX7_left 66 = .ok (.getfield 13, 3) := by decide +kernel
theorem dX7_left_69 : decode cX7_left 69 = .ok (.bipush 40, 2) := by decide +kernel
theorem dX7_left_71 : decode cX7_left 71 = .ok (.iload_n 1, 1) := by decide +kernel
theorem dX7_left_72 : decode cX7_left 72 = .ok (.imul, 1) := by decide +kernel
theorem dX7_left_73 : decode cX7_left 73 = .ok (.iload_n 3, 1) := by decide +kernel
theorem dX7_left_74 : decode cX7_left 74 = .ok (.iadd, 1) := by decide +kernel
theorem dX7_left_75 : decode cX7_left 75 = .ok (.iaload, 1) := by decide +kernel
theorem dX7_left_76 : decode cX7_left 76 = .ok (.istore 4, 2) := by decide +kernel
theorem dX7_left_78 : decode cX7_left 78 = .ok (.aload_n 0, 1) := by decide +kernel
theorem dX7_left_79 : decode cX7_left 79 = .ok (.getfield 13, 3) := by decide +kernel
theorem dX7_left_82 : decode cX7_left 82 = .ok (.bipush 40, 2) := by decide +kernel
theorem dX7_left_84 : decode cX7_left 84 = .ok (.iload_n 1, 1) := by decide +kernel
theorem dX7_left_85 : decode cX7_left 85 = .ok (.imul, 1) := by decide +kernel
theorem dX7_left_86 : decode cX7_left 86 = .ok (.iload_n 3, 1) := by decide +kernel
theorem dX7_left_87 : decode cX7_left 87 = .ok (.iadd, 1) := by decide +kernel
theorem dX7_left_88 : decode cX7_left 88 = .ok (.iconst 1, 1) := by decide +kernel
theorem dX7_left_89 : decode cX7_left 89 = .ok (.iadd, 1) := by decide +kernel
theorem dX7_left_90 : decode cX7_left 90 = .ok (.iaload, 1) := by decide +kernel
theorem dX7_left_91 : decode cX7_left 91 = .ok (.istore 5, 2) := by decide +kernel
theorem dX7_left_93 : decode cX7_left 93 = .ok (.aload_n 0, 1) := by decide +kernel
theorem dX7_left_94 : decode cX7_left 94 = .ok (.iload 4, 2) := by decide +kernel
theorem dX7_left_96 : decode cX7_left 96 = .ok (.invokevirtual 136, 3) := by decide +kernel
theorem dX7_left_99 : decode cX7_left 99 = .ok (.ifCond .eq 14, 3) := by decide +kernel
theorem dX7_left_102 : decode cX7_left 102 = .ok (.iload 5, 2) := by decide +kernel
theorem dX7_left_104 : decode cX7_left 104 = .ok (.i2l, 1) := by decide +kernel
theorem dX7_left_105 : decode cX7_left 105 = .ok (.lconst 0, 1) := by decide +kernel
theorem dX7_left_106 : decode cX7_left 106 = .ok (.lconst 1, 1) := by decide +kernel
theorem dX7_left_107 : decode cX7_left 107 = .ok (.invokestatic 66, 3) := by decide +kernel
theorem dX7_left_110 : decode cX7_left 110 = .ok (.ifCond .ne 9, 3) := by decide +kernel
theorem dX7_left_113 : decode cX7_left 113 = .ok (.aload_n 0, 1) := by decide +kernel
theorem dX7_left_114 : decode cX7_left 114 = .ok (.iconst 3, 1) := by decide +kernel
theorem dX7_left_115 : decode cX7_left 115 = .ok (.invokevirtual 76, 3) := by decide +kernel
theorem dX7_left_118 : decode cX7_left 118 = .ok (.ireturn, 1) := by decide +kernel
theorem dX7_left_119 : decode cX7_left 119 = .ok (.iload_n 2, 1) := by decide +kernel
theorem dX7_left_120 : decode cX7_left 120 = .ok (.iload 5, 2) := by decide +kernel
theorem dX7_left_122 : decode cX7_left 122 = .ok (.iconst 1, 1) := by decide +kernel
theorem dX7_left_123 : decode cX7_left 123 = .ok (.if_icmp .ne 12, 3) := by decide +kernel
theorem dX7_left_126 : decode cX7_left 126 = .ok (.aload_n 0, 1) := by decide +kernel
theorem dX7_left_127 : decode cX7_left 127 = .ok (.iload 4, 2) := by decide +kernel
theorem dX7_left_129 : decode cX7_left 129 = .ok (.invokevirtual 198, 3) := by decide +kernel
theorem dX7_left_132 : decode cX7_left 132 = .ok (.goto 11, 3) := by decide +kernel
theorem dX7_left_135 : decode cX7_left 135 = .ok (.aload_n 0, 1) := by decide +kernel
theorem dX7_left_136 : decode cX7_left 136 = .ok (.iload 4, 2) := by decide +kernel
theorem dX7_left_138 : decode cX7_left 138 = .ok (.invokevirtual 198, 3) := by decide +kernel
theorem dX7_left_141 : decode cX7_left 141 = .ok (.iconst (-1), 1) := by decide +kernel
theorem dX7_left_142 : decode cX7_left 142 = .ok (.ixor, 1) := by decide +kernel
theorem dX7_left_143 : decode cX7_left 143 = .ok (.iand, 1) := by decide +kernel
theorem dX7_left_144 : decode cX7_left 144 = .ok (.istore_n 2, 1) := by decide +kernel
theorem dX7_left_145 : decode cX7_left 145 = .ok (.iinc 3 2, 3) := by decide +kernel
theorem dX7_left_148 : decode cX7_left 148 = .ok (.goto (-93), 3) := by decide +kernel
theorem dX7_left_151 : decode cX7_left 151 = .ok (.iload_n 2, 1) := by decide +kernel
theorem dX7_left_152 : decode cX7_left 152 = .ok (.ireturn, 1) := by decide +kernel
def F_X7_left_L55 (n : Nat) (a0 : Nat) (a1 : Int32) (K151 : Int32 → aSt → Option (Int32 × aSt)) : Nat → Int32 → Int32 → aSt → Option (Int32 × aSt)
  | 0, _, _, _ => none
  | fu + 1, l55_2, l55_3, l55S =>
    rfd (l55S.2.2 a0 0) 7 fun k57 =>
    grd (inb a1 (SH k57).2) <|
    if (l55S.1 k57 a1.toNatClampNeg) ≤ l55_3 then (K151 l55_2 l55S) else
    rfd (l55S.2.2 a0 1) 7 fun k66 =>
    grd (inb (((40 : Int32) * a1) + l55_3) (SH k66).2) <|
    nm (l55S.1 k66 (((40 : Int32) * a1) + l55_3).toNatClampNeg) fun v76 =>
    grd (inb ((((40 : Int32) * a1) + l55_3) + (1 : Int32)) (SH k66).2) <|
    nm (l55S.1 k66 ((((40 : Int32) * a1) + l55_3) + (1 : Int32)).toNatClampNeg) fun v91 =>
    (F_X7_isQuestion n l55S a0 v76).bind fun r96 =>
    jn ((bn2 (F_X7_found n l55S a0 (3 : Int32)) fun r115 S115 =>
    some (r115, S115) : Option (Int32 × aSt))) fun K113 =>
    if r96 = 0 then (K113) else
    (F_X7_in n l55S v91.toInt64 (0 : Int64) (1 : Int64)).bind fun r107 =>
    if r107 = 0 then (K113) else
    jn (fun (j143s1 : Int32) => (nm (l55_2 &&& j143s1) fun v144 =>
    F_X7_left_L55 n a0 a1 K151 fu v144 (l55_3 + (2 : Int32)) l55S : Option (Int32 × aSt))) fun K143 =>
    if v91 = (1 : Int32) then ((F_X7_fits n l55S a0 v76).bind fun r129 =>
    K143 r129) else
    (F_X7_fits n l55S a0 v76).bind fun r138 =>
    K143 (r138 ^^^ (-1 : Int32))
def F_X7_left (n : Nat) (S : aSt) (a0 : Nat) (a1 : Int32) : Option (Int32 × aSt) :=
(F_X7_isRow n S a1).bind fun r1 =>
if r1 = 0 then (some ((-1 : Int32), S)) else
rfd (S.2.2 a0 0) 7 fun k10 =>
grd (inb a1 (SH k10).2) <|
if 0 ≤ (S.1 k10 a1.toNatClampNeg) then (grd (inb a1 (SH k10).2) <|
if ((S.1 k10 a1.toNatClampNeg) - (S.1 k10 a1.toNatClampNeg) / (2 : Int32) * (2 : Int32)) = (1 : Int32) then (bn2 (F_X7_found n S a0 (5 : Int32)) fun r38 S38 =>
some (r38, S38)) else
rfd (S.2.2 a0 4) 7 fun k44 =>
grd (inb (0 : Int32) (SH k44).2) <|
nm (((1 : Int32) <<< ((S.1 k44 (0 : Int32).toNatClampNeg) &&& 31)) - (1 : Int32)) fun v52 =>
jn (fun (x151_2 : Int32) (x151S : aSt) => (some (x151_2, x151S) : Option (Int32 × aSt))) fun K151 =>
F_X7_left_L55 n a0 a1 K151 n v52 (0 : Int32) S) else
bn2 (F_X7_found n S a0 (1 : Int32)) fun r20 S20 =>
some (r20, S20)
set_option maxHeartbeats 4000000 in
set_option maxRecDepth 100000 in
theorem C_X7_left (G : aG) (l : Launch) (n : Nat) (S : aSt) (a0 : Nat) (a1 : Int32) (r : Int32) (Sr : aSt) (ha0 : isT a0 6 = true) (hf : F_X7_left n S a0 a1 = some (r, Sr)) : Ctr G l yX7_left mX7_left (rmM 5) 97 97 S [.ref a0, .int a1] (some (.int r)) Sr := by
  refine Ctr.of (by decide) rfl rfl (Nat.le_of_ble_eq_true rfl) [(0, .ref a0), (1, .int a1)] rfl ?_
  unfold F_X7_left at hf
  refine Go.iload_n 1 1 rfl dX7_left_0 rfl ?_
  obtain ⟨r1, er1, hf⟩ := f_bnd hf
  refine Go.cS 4 [.int a1] [] (C_X7_isRow G l n S a1 r1  er1) rfl dX7_left_1 cx_X7_72 (by decide) (by decide) rfl (Nat.le_of_ble_eq_true rfl) ?_
  refine Go.if_ne 9 7 rfl dX7_left_4 rfl (fun hc => ?_) (fun hc => ?_)
  · replace hf := f_el hf hc
    refine Go.aload_n 0 10 rfl dX7_left_9 rfl ?_
    obtain ⟨k10, qk10, hk10, hf⟩ := f_rfd hf
    refine Go.getR 13 rfl dX7_left_10 fl_X7_7 rfl (isT_lt ha0) (isT_sh ha0) qk10 ?_
    refine Go.iload_n 1 14 rfl dX7_left_13 rfl ?_
    obtain ⟨g14, hf⟩ := f_grd hf
    refine Go.iald 15 rfl dX7_left_14 (isT_lt hk10) (isT_sh hk10) g14 ?_
    refine Go.if_ge 24 18 rfl dX7_left_15 rfl (fun hc => ?_) (fun hc => ?_)
    · replace hf := f_if hf hc
      refine Go.aload_n 0 25 rfl dX7_left_24 rfl ?_
      refine Go.getR 28 rfl dX7_left_25 fl_X7_7 rfl (isT_lt ha0) (isT_sh ha0) qk10 ?_
      refine Go.iload_n 1 29 rfl dX7_left_28 rfl ?_
      obtain ⟨g29, hf⟩ := f_grd hf
      refine Go.iald 30 rfl dX7_left_29 (isT_lt hk10) (isT_sh hk10) g29 ?_
      refine Go.iconst (2 : Int32) 31 rfl dX7_left_30 ci_2 ?_
      refine Go.irem 32 rfl dX7_left_31 (by decide) ?_
      refine Go.iconst (1 : Int32) 33 rfl dX7_left_32 ci_1 ?_
      refine Go.icmp_ne 42 36 rfl dX7_left_33 rfl (fun hc => ?_) (fun hc => ?_)
      · replace hf := f_el hf hc
        refine Go.iconst (1 : Int32) 43 rfl dX7_left_42 ci_1 ?_
        refine Go.aload_n 0 44 rfl dX7_left_43 rfl ?_
        obtain ⟨k44, qk44, hk44, hf⟩ := f_rfd hf
        refine Go.getR 47 rfl dX7_left_44 fl_X7_22 rfl (isT_lt ha0) (isT_sh ha0) qk44 ?_
        refine Go.iconst (0 : Int32) 48 rfl dX7_left_47 ci_0 ?_
        obtain ⟨g48, hf⟩ := f_grd hf
        refine Go.iald 49 rfl dX7_left_48 (isT_lt hk44) (isT_sh hk44) g48 ?_
        refine Go.ishl 50 rfl dX7_left_49 ?_
        refine Go.iconst (1 : Int32) 51 rfl dX7_left_50 ci_1 ?_
        refine Go.isub 52 rfl dX7_left_51 ?_
        obtain ⟨v52, ev52, hf⟩ := f_nm hf
        refine Go.topi v52 ev52 ?_
        refine Go.istore_n 53 [(2, .int v52), (0, .ref a0), (1, .int a1)] rfl dX7_left_52 (by decide) rfl ?_
        refine Go.iconst (0 : Int32) 54 rfl dX7_left_53 ci_0 ?_
        refine Go.istore_n 55 [(3, .int (0 : Int32)), (2, .int v52), (0, .ref a0), (1, .int a1)] rfl dX7_left_54 (by decide) rfl ?_
        obtain ⟨K151, eK151, hf⟩ := f_jn hf
        have J151 : ∀ (x151_2 : Int32) (x151S : aSt), K151 x151_2 x151S = some (r, Sr) → GoM G l 5 (TmR G (some (.int r)) 97 Sr 0 0) mX7_left 151 [(2, .int x151_2)] [] x151S := by
          intro x151_2 x151S hf
          rw [eK151] at hf
          refine Go.iload_n 0 152 rfl dX7_left_151 rfl ?_
          exact Go.irS rfl dX7_left_152 hf
        clear eK151
        have L55 : ∀ (fu : Nat) (l55_2 : Int32) (l55_3 : Int32) (l55S : aSt), F_X7_left_L55 n a0 a1 K151 fu l55_2 l55_3 l55S = some (r, Sr) → GoM G l 5 (TmR G (some (.int r)) 97 Sr 0 0) mX7_left 55 [(0, .ref a0), (1, .int a1), (2, .int l55_2), (3, .int l55_3)] [] l55S := by
          intro fu
          induction fu with
          | zero => intro l55_2 l55_3 l55S hf; rw [F_X7_left_L55] at hf; cases hf
          | succ fu ih =>
            intro l55_2 l55_3 l55S hf
            rw [F_X7_left_L55] at hf
            refine Go.iload_n 3 56 rfl dX7_left_55 rfl ?_
            refine Go.aload_n 0 57 rfl dX7_left_56 rfl ?_
            obtain ⟨k57, qk57, hk57, hf⟩ := f_rfd hf
            refine Go.getR 60 rfl dX7_left_57 fl_X7_7 rfl (isT_lt ha0) (isT_sh ha0) qk57 ?_
            refine Go.iload_n 1 61 rfl dX7_left_60 rfl ?_
            obtain ⟨g61, hf⟩ := f_grd hf
            refine Go.iald 62 rfl dX7_left_61 (isT_lt hk57) (isT_sh hk57) g61 ?_
            refine Go.icmp_ge 151 65 rfl dX7_left_62 rfl (fun hc => ?_) (fun hc => ?_)
            · replace hf := f_if hf hc
              exact Go.sub [2] [(2, .int l55_2)] rfl (J151 l55_2 l55S hf)
            · replace hf := f_el hf hc
              refine Go.aload_n 0 66 rfl dX7_left_65 rfl ?_
              obtain ⟨k66, qk66, hk66, hf⟩ := f_rfd hf
              refine Go.getR 69 rfl dX7_left_66 fl_X7_13 rfl (isT_lt ha0) (isT_sh ha0) qk66 ?_
              refine Go.bipush (40 : Int32) 71 rfl dX7_left_69 cb_40 ?_
              refine Go.iload_n 1 72 rfl dX7_left_71 rfl ?_
              refine Go.imul 73 rfl dX7_left_72 ?_
              refine Go.iload_n 3 74 rfl dX7_left_73 rfl ?_
              refine Go.iadd 75 rfl dX7_left_74 ?_
              obtain ⟨g75, hf⟩ := f_grd hf
              refine Go.iald 76 rfl dX7_left_75 (isT_lt hk66) (isT_sh hk66) g75 ?_
              obtain ⟨v76, ev76, hf⟩ := f_nm hf
              refine Go.topi v76 ev76 ?_
              refine Go.istore 78 [(4, .int v76), (0, .ref a0), (1, .int a1), (2, .int l55_2), (3, .int l55_3)] rfl dX7_left_76 (by decide) rfl ?_
              refine Go.aload_n 1 79 rfl dX7_left_78 rfl ?_
              refine Go.getR 82 rfl dX7_left_79 fl_X7_13 rfl (isT_lt ha0) (isT_sh ha0) qk66 ?_
              refine Go.bipush (40 : Int32) 84 rfl dX7_left_82 cb_40 ?_
              refine Go.iload_n 2 85 rfl dX7_left_84 rfl ?_
              refine Go.imul 86 rfl dX7_left_85 ?_
              refine Go.iload_n 4 87 rfl dX7_left_86 rfl ?_
              refine Go.iadd 88 rfl dX7_left_87 ?_
              refine Go.iconst (1 : Int32) 89 rfl dX7_left_88 ci_1 ?_
              refine Go.iadd 90 rfl dX7_left_89 ?_
              obtain ⟨g90, hf⟩ := f_grd hf
              refine Go.iald 91 rfl dX7_left_90 (isT_lt hk66) (isT_sh hk66) g90 ?_
              obtain ⟨v91, ev91, hf⟩ := f_nm hf
              refine Go.topi v91 ev91 ?_
              refine Go.istore 93 [(5, .int v91), (4, .int v76), (0, .ref a0), (1, .int a1), (2, .int l55_2), (3, .int l55_3)] rfl dX7_left_91 (by decide) rfl ?_
              refine Go.aload_n 2 94 rfl dX7_left_93 rfl ?_
              refine Go.iload 1 96 rfl dX7_left_94 rfl ?_
              obtain ⟨r96, er96, hf⟩ := f_bnd hf
              refine Go.cV 99 [.int v76] [] (C_X7_isQuestion G l n l55S a0 v76 r96 ha0 er96) rfl dX7_left_96 cv_X7_136 ha0 (by decide) (by decide) rfl (Nat.le_of_ble_eq_true rfl) ?_
              obtain ⟨K113, eK113, hf⟩ := f_jn hf
              have J113 : K113 = some (r, Sr) → GoM G l 5 (TmR G (some (.int r)) 97 Sr 0 0) mX7_left 113 [(0, .ref a0)] [] l55S := by
                intro hf
                rw [eK113] at hf
                refine Go.aload_n 0 114 rfl dX7_left_113 rfl ?_
                refine Go.iconst (3 : Int32) 115 rfl dX7_left_114 ci_3 ?_
                obtain ⟨r115, S115, er115, hf⟩ := f_bn2 hf
                refine Go.cV 118 [.int (3 : Int32)] [] (C_X7_found G l n l55S a0 (3 : Int32) r115 S115 ha0 er115) rfl dX7_left_115 cv_X7_76 ha0 (by decide) (by decide) rfl (Nat.le_of_ble_eq_true rfl) ?_
                exact Go.irS rfl dX7_left_118 hf
              clear eK113
              refine Go.if_eq 113 102 rfl dX7_left_99 rfl (fun hc => ?_) (fun hc => ?_)
              · replace hf := f_if hf hc
                exact Go.sub [2] [(0, .ref a0)] rfl (J113 hf)
              · replace hf := f_el hf hc
                refine Go.iload 0 104 rfl dX7_left_102 rfl ?_
                refine Go.i2l 105 rfl dX7_left_104 ?_
                refine Go.lconst (0 : Int64) 106 rfl dX7_left_105 cl_0 ?_
                refine Go.lconst (1 : Int64) 107 rfl dX7_left_106 cl_1 ?_
                obtain ⟨r107, er107, hf⟩ := f_bnd hf
                refine Go.cS 110 [.long v91.toInt64, .long (0 : Int64), .long (1 : Int64)] [] (C_X7_in G l n l55S v91.toInt64 (0 : Int64) (1 : Int64) r107  er107) rfl dX7_left_107 cx_X7_66 (by decide) (by decide) rfl (Nat.le_of_ble_eq_true rfl) ?_
                refine Go.if_ne 119 113 rfl dX7_left_110 rfl (fun hc => ?_) (fun hc => ?_)
                · replace hf := f_el hf hc
                  refine Go.iload_n 4 120 rfl dX7_left_119 rfl ?_
                  refine Go.iload 0 122 rfl dX7_left_120 rfl ?_
                  refine Go.iconst (1 : Int32) 123 rfl dX7_left_122 ci_1 ?_
                  obtain ⟨K143, eK143, hf⟩ := f_jn hf
                  have J143 : ∀ (j143s1 : Int32), K143 j143s1 = some (r, Sr) → GoM G l 5 (TmR G (some (.int r)) 97 Sr 0 0) mX7_left 143 [(0, .ref a0), (1, .int a1), (3, .int l55_3)] [.int j143s1, .int l55_2] l55S := by
                    intro j143s1 hf
                    rw [eK143] at hf
                    refine Go.iand 144 rfl dX7_left_143 ?_
                    obtain ⟨v144, ev144, hf⟩ := f_nm hf
                    refine Go.topi v144 ev144 ?_
                    refine Go.istore_n 145 [(2, .int v144), (0, .ref a0), (1, .int a1), (3, .int l55_3)] rfl dX7_left_144 (by decide) rfl ?_
                    refine Go.inc 3 148 (2 : Int32) [(3, .int (l55_3 + (2 : Int32))), (2, .int v144), (0, .ref a0), (1, .int a1)] rfl dX7_left_145 rfl ci_2 (by decide) rfl ?_
                    refine Go.goto 55 dX7_left_148 rfl ?_
                    exact Go.sub [2, 3, 1, 0] [(0, .ref a0), (1, .int a1), (2, .int v144), (3, .int (l55_3 + (2 : Int32)))] rfl (ih v144 (l55_3 + (2 : Int32)) l55S hf)
                  clear eK143
                  refine Go.icmp_ne 135 126 rfl dX7_left_123 rfl (fun hc => ?_) (fun hc => ?_)
                  · replace hf := f_el hf hc
                    refine Go.aload_n 2 136 rfl dX7_left_135 rfl ?_
                    refine Go.iload 1 138 rfl dX7_left_136 rfl ?_
                    obtain ⟨r138, er138, hf⟩ := f_bnd hf
                    refine Go.cV 141 [.int v76] [.int l55_2] (C_X7_fits G l n l55S a0 v76 r138 ha0 er138) rfl dX7_left_138 cv_X7_198 ha0 (by decide) (by decide) rfl (Nat.le_of_ble_eq_true rfl) ?_
                    refine Go.iconst (-1 : Int32) 142 rfl dX7_left_141 ci_m1 ?_
                    refine Go.ixor 143 rfl dX7_left_142 ?_
                    exact Go.sub [2, 3, 5] [(0, .ref a0), (1, .int a1), (3, .int l55_3)] rfl (J143 (r138 ^^^ (-1 : Int32)) hf)
                  · replace hf := f_if hf hc
                    refine Go.aload_n 2 127 rfl dX7_left_126 rfl ?_
                    refine Go.iload 1 129 rfl dX7_left_127 rfl ?_
                    obtain ⟨r129, er129, hf⟩ := f_bnd hf
                    refine Go.cV 132 [.int v76] [.int l55_2] (C_X7_fits G l n l55S a0 v76 r129 ha0 er129) rfl dX7_left_129 cv_X7_198 ha0 (by decide) (by decide) rfl (Nat.le_of_ble_eq_true rfl) ?_
                    refine Go.goto 143 dX7_left_132 rfl ?_
                    exact Go.sub [2, 3, 5] [(0, .ref a0), (1, .int a1), (3, .int l55_3)] rfl (J143 r129 hf)
                · replace hf := f_if hf hc
                  exact Go.sub [2] [(0, .ref a0)] rfl (J113 hf)
        exact Go.sub [2, 3, 1, 0] [(0, .ref a0), (1, .int a1), (2, .int v52), (3, .int (0 : Int32))] rfl (L55 n v52 (0 : Int32) S hf)
      · replace hf := f_if hf hc
        refine Go.aload_n 0 37 rfl dX7_left_36 rfl ?_
        refine Go.iconst (5 : Int32) 38 rfl dX7_left_37 ci_5 ?_
        obtain ⟨r38, S38, er38, hf⟩ := f_bn2 hf
        refine Go.cV 41 [.int (5 : Int32)] [] (C_X7_found G l n S a0 (5 : Int32) r38 S38 ha0 er38) rfl dX7_left_38 cv_X7_76 ha0 (by decide) (by decide) rfl (Nat.le_of_ble_eq_true rfl) ?_
        exact Go.irS rfl dX7_left_41 hf
    · replace hf := f_el hf hc
      refine Go.aload_n 0 19 rfl dX7_left_18 rfl ?_
      refine Go.iconst (1 : Int32) 20 rfl dX7_left_19 ci_1 ?_
      obtain ⟨r20, S20, er20, hf⟩ := f_bn2 hf
      refine Go.cV 23 [.int (1 : Int32)] [] (C_X7_found G l n S a0 (1 : Int32) r20 S20 ha0 er20) rfl dX7_left_20 cv_X7_76 ha0 (by decide) (by decide) rfl (Nat.le_of_ble_eq_true rfl) ?_
      exact Go.irS rfl dX7_left_23 hf
  · replace hf := f_if hf hc
    refine Go.iconst (-1 : Int32) 8 rfl dX7_left_7 ci_m1 ?_
    exact Go.irS rfl dX7_left_8 hf
theorem dX7_forged_0 : decode cX7_forged 0 = .ok (.bipush (-9), 2) := by decide +kernel
theorem dX7_forged_2 : decode cX7_forged 2 = .ok (.istore_n 1, 1) := by decide +kernel
theorem dX7_forged_3 : decode cX7_forged 3 = .ok (.iconst (-1), 1) := by decide +kernel
theorem dX7_forged_4 : decode cX7_forged 4 = .ok (.istore_n 2, 1) := by decide +kernel
theorem dX7_forged_5 : decode cX7_forged 5 = .ok (.iconst 0, 1) := by decide +kernel
theorem dX7_forged_6 : decode cX7_forged 6 = .ok (.istore_n 3, 1) := by decide +kernel
theorem dX7_forged_7 : decode cX7_forged 7 = .ok (.iload_n 3, 1) := by decide +kernel
theorem dX7_forged_8 : decode cX7_forged 8 = .ok (.aload_n 0, 1) := by decide +kernel
theorem dX7_forged_9 : decode cX7_forged 9 = .ok (.getfield 22, 3) := by decide +kernel
theorem dX7_forged_12 : decode cX7_forged 12 = .ok (.iconst 0, 1) := by decide +kernel
theorem dX7_forged_13 : decode cX7_forged 13 = .ok (.iaload, 1) := by decide +kernel
theorem dX7_forged_14 : decode cX7_forged 14 = .ok (.if_icmp .ge 77, 3) := by decide +kernel
theorem dX7_forged_17 : decode cX7_forged 17 = .ok (.iconst 0, 1) := by decide +kernel
theorem dX7_forged_18 : decode cX7_forged 18 = .ok (.istore 4, 2) := by decide +kernel
theorem dX7_forged_20 : decode cX7_forged 20 = .ok (.iconst 0, 1) := by decide +kernel
theorem dX7_forged_21 : decode cX7_forged 21 = .ok (.istore 5, 2) := by decide +kernel
theorem dX7_forged_23 : decode cX7_forged 23 = .ok (.iload 5, 2) := by decide +kernel
theorem dX7_forged_25 : decode cX7_forged 25 = .ok (.aload_n 0, 1) := by decide +kernel
theorem dX7_forged_26 : decode cX7_forged 26 = .ok (.getfield 22, 3) := by decide +kernel
theorem dX7_forged_29 : decode cX7_forged 29 = .ok (.iconst 1, 1) := by decide +kernel
theorem dX7_forged_30 : decode cX7_forged 30 = .ok (.iaload, 1) := by decide +kernel
theorem dX7_forged_31 : decode cX7_forged 31 = .ok (.if_icmp .ge 29, 3) := by decide +kernel
theorem dX7_forged_34 : decode cX7_forged 34 = .ok (.iload 4, 2) := by decide +kernel
theorem dX7_forged_36 : decode cX7_forged 36 = .ok (.aload_n 0, 1) := by decide +kernel
theorem dX7_forged_37 : decode cX7_forged 37 = .ok (.iload 5, 2) := by decide +kernel
theorem dX7_forged_39 : decode cX7_forged 39 = .ok (.iload_n 3, 1) := by decide +kernel
theorem dX7_forged_40 : decode cX7_forged 40 = .ok (.invokevirtual 139, 3) := by decide +kernel
theorem dX7_forged_43 : decode cX7_forged 43 = .ok (.ifCond .eq 7, 3) := by decide +kernel
theorem dX7_forged_46 : decode cX7_forged 46 = .ok (.iconst 1, 1) := by decide +kernel
theorem dX7_forged_47 : decode cX7_forged 47 = .ok (.goto 4, 3) := by decide +kernel
theorem dX7_forged_50 : decode cX7_forged 50 = .ok (.iconst 0, 1) := by decide +kernel
theorem dX7_forged_51 : decode cX7_forged 51 = .ok (.iadd, 1) := by decide +kernel
theorem dX7_forged_52 : decode cX7_forged 52 = .ok (.istore 4, 2) := by decide +kernel
theorem dX7_forged_54 : decode cX7_forged 54 = .ok (.iinc 5 1, 3) := by decide +kernel
theorem dX7_forged_57 : decode cX7_forged 57 = .ok (.goto (-34), 3) := by decide +kernel
theorem dX7_forged_60 : decode cX7_forged 60 = .ok (.iload 4, 2) := by decide +kernel
theorem dX7_forged_62 : decode cX7_forged 62 = .ok (.iload_n 2, 1) := by decide +kernel
theorem dX7_forged_63 : decode cX7_forged 63 = .ok (.if_icmp .le 7, 3) := by decide +kernel
theorem dX7_forged_66 : decode cX7_forged 66 = .ok (.iload_n 3, 1) := by decide +kernel
theorem dX7_forged_67 : decode cX7_forged 67 = .ok (.goto 4, 3) := by decide +kernel
theorem dX7_forged_70 : decode cX7_forged 70 = .ok (.iload_n 1, 1) := by decide +kernel
theorem dX7_forged_71 : decode cX7_forged 71 = .ok (.istore_n 1, 1) := by decide +kernel
theorem dX7_forged_72 : decode cX7_forged 72 = .ok (.iload 4, 2) := by decide +kernel
theorem dX7_forged_74 : decode cX7_forged 74 = .ok (.iload_n 2, 1) := by decide +kernel
theorem dX7_forged_75 : decode cX7_forged 75 = .ok (.if_icmp .le 8, 3) := by decide +kernel
theorem dX7_forged_78 : decode cX7_forged 78 = .ok (.iload 4, 2) := by decide +kernel
theorem dX7_forged_80 : decode cX7_forged 80 = .ok (.goto 4, 3) := by decide +kernel
theorem dX7_forged_83 : decode cX7_forged 83 = .ok (.iload_n 2, 1) := by decide +kernel
theorem dX7_forged_84 : decode cX7_forged 84 = .ok (.istore_n 2, 1) := by decide +kernel
theorem dX7_forged_85 : decode cX7_forged 85 = .ok (.iinc 3 1, 3) := by decide +kernel
theorem dX7_forged_88 : decode cX7_forged 88 = .ok (.goto (-81), 3) := by decide +kernel
theorem dX7_forged_91 : decode cX7_forged 91 = .ok (.iload_n 1, 1) := by decide +kernel
theorem dX7_forged_92 : decode cX7_forged 92 = .ok (.bipush (-9), 2) := by decide +kernel
theorem dX7_forged_94 : decode cX7_forged 94 = .ok (.if_icmp .ne 7, 3) := by decide +kernel
theorem dX7_forged_97 : decode cX7_forged 97 = .ok (.iconst 0, 1) := by decide +kernel
theorem dX7_forged_98 : decode cX7_forged 98 = .ok (.goto 8, 3) := by decide +kernel
theorem dX7_forged_101 : decode cX7_forged 101 = .ok (.aload_n 0, 1) := by decide +kernel
theorem dX7_forged_102 : decode cX7_forged 102 = .ok (.iload_n 2, 1) := by decide +kernel
theorem dX7_forged_103 : decode cX7_forged 103 = .ok (.invokevirtual 80, 3) := by decide +kernel
theorem dX7_forged_106 : decode cX7_forged 106 = .ok (.istore_n 3, 1) := by decide +kernel
theorem dX7_forged_107 : decode cX7_forged 107 = .ok (.iload_n 1, 1) := by decide +kernel
theorem dX7_forged_108 : decode cX7_forged 108 = .ok (.ireturn, 1) := by decide +kernel
def F_X7_forged_L23 (n : Nat) (S : aSt) (a0 : Nat) (l7_3 : Int32) (k9 : Nat) (K60 : Int32 → Option (Int32 × aSt)) : Nat → Int32 → Int32 → Option (Int32 × aSt)
  | 0, _, _ => none
  | fu + 1, l23_4, l23_5 =>
    grd (inb (1 : Int32) (SH k9).2) <|
    if (S.1 k9 (1 : Int32).toNatClampNeg) ≤ l23_5 then (K60 l23_4) else
    (F_X7_isFit n S a0 l23_5 l7_3).bind fun r40 =>
    jn (fun (j51s1 : Int32) => (nm (l23_4 + j51s1) fun v52 =>
    F_X7_forged_L23 n S a0 l7_3 k9 K60 fu v52 (l23_5 + (1 : Int32)) : Option (Int32 × aSt))) fun K51 =>
    if r40 = 0 then (K51 (0 : Int32)) else
    K51 (1 : Int32)
def F_X7_forged_L7 (n : Nat) (S : aSt) (a0 : Nat) (K91 : Int32 → Int32 → Option (Int32 × aSt)) : Nat → Int32 → Int32 → Int32 → Option (Int32 × aSt)
  | 0, _, _, _ => none
  | fu + 1, l7_1, l7_2, l7_3 =>
    rfd (S.2.2 a0 4) 7 fun k9 =>
    grd (inb (0 : Int32) (SH k9).2) <|
    if (S.1 k9 (0 : Int32).toNatClampNeg) ≤ l7_3 then (K91 l7_1 l7_2) else
    jn (fun (x60_4 : Int32) => (jn (fun (j71s0 : Int32) => (jn (fun (j84s0 : Int32) => (F_X7_forged_L7 n S a0 K91 fu j71s0 j84s0 (l7_3 + (1 : Int32)) : Option (Int32 × aSt))) fun K84 =>
    if x60_4 ≤ l7_2 then (K84 l7_2) else
    K84 x60_4 : Option (Int32 × aSt))) fun K71 =>
    if x60_4 ≤ l7_2 then (K71 l7_1) else
    K71 l7_3 : Option (Int32 × aSt))) fun K60 =>
    F_X7_forged_L23 n S a0 l7_3 k9 K60 n (0 : Int32) (0 : Int32)
def F_X7_forged (n : Nat) (S : aSt) (a0 : Nat) : Option (Int32 × aSt) :=
jn (fun (x91_1 : Int32) (x91_2 : Int32) => (jn (fun (j106s0 : Int32) (j106S : aSt) => (some (x91_1, j106S) : Option (Int32 × aSt))) fun K106 =>
if x91_1 = (-9 : Int32) then (K106 (0 : Int32) S) else
bn2 (F_X7_tell n S a0 x91_2) fun r103 S103 =>
K106 r103 S103 : Option (Int32 × aSt))) fun K91 =>
F_X7_forged_L7 n S a0 K91 n (-9 : Int32) (-1 : Int32) (0 : Int32)
set_option maxHeartbeats 4000000 in
set_option maxRecDepth 100000 in
theorem C_X7_forged (G : aG) (l : Launch) (n : Nat) (S : aSt) (a0 : Nat) (r : Int32) (Sr : aSt) (ha0 : isT a0 6 = true) (hf : F_X7_forged n S a0 = some (r, Sr)) : Ctr G l yX7_forged mX7_forged (rmM 4) 97 97 S [.ref a0] (some (.int r)) Sr := by
  refine Ctr.of (by decide) rfl rfl (Nat.le_of_ble_eq_true rfl) [(0, .ref a0)] rfl ?_
  unfold F_X7_forged at hf
  refine Go.bipush (-9 : Int32) 2 rfl dX7_forged_0 cb_m9 ?_
  refine Go.istore_n 3 [(1, .int (-9 : Int32)), (0, .ref a0)] rfl dX7_forged_2 (by decide) rfl ?_
  refine Go.iconst (-1 : Int32) 4 rfl dX7_forged_3 ci_m1 ?_
  refine Go.istore_n 5 [(2, .int (-1 : Int32)), (1, .int (-9 : Int32)), (0, .ref a0)] rfl dX7_forged_4 (by decide) rfl ?_
  refine Go.iconst (0 : Int32) 6 rfl dX7_forged_5 ci_0 ?_
  refine Go.istore_n 7 [(3, .int (0 : Int32)), (2, .int (-1 : Int32)), (1, .int (-9 : Int32)), (0, .ref a0)] rfl dX7_forged_6 (by decide) rfl ?_
  obtain ⟨K91, eK91, hf⟩ := f_jn hf
  have J91 : ∀ (x91_1 : Int32) (x91_2 : Int32), K91 x91_1 x91_2 = some (r, Sr) → GoM G l 4 (TmR G (some (.int r)) 97 Sr 0 0) mX7_forged 91 [(0, .ref a0), (1, .int x91_1), (2, .int x91_2)] [] S := by
    intro x91_1 x91_2 hf
    rw [eK91] at hf
    refine Go.iload_n 1 92 rfl dX7_forged_91 rfl ?_
    refine Go.bipush (-9 : Int32) 94 rfl dX7_forged_92 cb_m9 ?_
    obtain ⟨K106, eK106, hf⟩ := f_jn hf
    have J106 : ∀ (j106s0 : Int32) (j106S : aSt), K106 j106s0 j106S = some (r, Sr) → GoM G l 4 (TmR G (some (.int r)) 97 Sr 0 0) mX7_forged 106 [(1, .int x91_1)] [.int j106s0] j106S := by
      intro j106s0 j106S hf
      rw [eK106] at hf
      refine Go.istore_n 107 [(3, .int j106s0), (1, .int x91_1)] rfl dX7_forged_106 (by decide) rfl ?_
      refine Go.iload_n 1 108 rfl dX7_forged_107 rfl ?_
      exact Go.irS rfl dX7_forged_108 hf
    clear eK106
    refine Go.icmp_ne 101 97 rfl dX7_forged_94 rfl (fun hc => ?_) (fun hc => ?_)
    · replace hf := f_el hf hc
      refine Go.aload_n 0 102 rfl dX7_forged_101 rfl ?_
      refine Go.iload_n 2 103 rfl dX7_forged_102 rfl ?_
      obtain ⟨r103, S103, er103, hf⟩ := f_bn2 hf
      refine Go.cV 106 [.int x91_2] [] (C_X7_tell G l n S a0 x91_2 r103 S103 ha0 er103) rfl dX7_forged_103 cv_X7_80 ha0 (by decide) (by decide) rfl (Nat.le_of_ble_eq_true rfl) ?_
      exact Go.sub [1] [(1, .int x91_1)] rfl (J106 r103 S103 hf)
    · replace hf := f_if hf hc
      refine Go.iconst (0 : Int32) 98 rfl dX7_forged_97 ci_0 ?_
      refine Go.goto 106 dX7_forged_98 rfl ?_
      exact Go.sub [1] [(1, .int x91_1)] rfl (J106 (0 : Int32) S hf)
  clear eK91
  have L7 : ∀ (fu : Nat) (l7_1 : Int32) (l7_2 : Int32) (l7_3 : Int32), F_X7_forged_L7 n S a0 K91 fu l7_1 l7_2 l7_3 = some (r, Sr) → GoM G l 4 (TmR G (some (.int r)) 97 Sr 0 0) mX7_forged 7 [(0, .ref a0), (1, .int l7_1), (2, .int l7_2), (3, .int l7_3)] [] S := by
    intro fu
    induction fu with
    | zero => intro l7_1 l7_2 l7_3 hf; rw [F_X7_forged_L7] at hf; cases hf
    | succ fu ih =>
      intro l7_1 l7_2 l7_3 hf
      rw [F_X7_forged_L7] at hf
      refine Go.iload_n 3 8 rfl dX7_forged_7 rfl ?_
      refine Go.aload_n 0 9 rfl dX7_forged_8 rfl ?_
      obtain ⟨k9, qk9, hk9, hf⟩ := f_rfd hf
      refine Go.getR 12 rfl dX7_forged_9 fl_X7_22 rfl (isT_lt ha0) (isT_sh ha0) qk9 ?_
      refine Go.iconst (0 : Int32) 13 rfl dX7_forged_12 ci_0 ?_
      obtain ⟨g13, hf⟩ := f_grd hf
      refine Go.iald 14 rfl dX7_forged_13 (isT_lt hk9) (isT_sh hk9) g13 ?_
      refine Go.icmp_ge 91 17 rfl dX7_forged_14 rfl (fun hc => ?_) (fun hc => ?_)
      · replace hf := f_if hf hc
        exact Go.sub [0, 1, 2] [(0, .ref a0), (1, .int l7_1), (2, .int l7_2)] rfl (J91 l7_1 l7_2 hf)
      · replace hf := f_el hf hc
        refine Go.iconst (0 : Int32) 18 rfl dX7_forged_17 ci_0 ?_
        refine Go.istore 20 [(4, .int (0 : Int32)), (0, .ref a0), (1, .int l7_1), (2, .int l7_2), (3, .int l7_3)] rfl dX7_forged_18 (by decide) rfl ?_
        refine Go.iconst (0 : Int32) 21 rfl dX7_forged_20 ci_0 ?_
        refine Go.istore 23 [(5, .int (0 : Int32)), (4, .int (0 : Int32)), (0, .ref a0), (1, .int l7_1), (2, .int l7_2), (3, .int l7_3)] rfl dX7_forged_21 (by decide) rfl ?_
        obtain ⟨K60, eK60, hf⟩ := f_jn hf
        have J60 : ∀ (x60_4 : Int32), K60 x60_4 = some (r, Sr) → GoM G l 4 (TmR G (some (.int r)) 97 Sr 0 0) mX7_forged 60 [(0, .ref a0), (1, .int l7_1), (2, .int l7_2), (3, .int l7_3), (4, .int x60_4)] [] S := by
          intro x60_4 hf
          rw [eK60] at hf
          refine Go.iload 4 62 rfl dX7_forged_60 rfl ?_
          refine Go.iload_n 2 63 rfl dX7_forged_62 rfl ?_
          obtain ⟨K71, eK71, hf⟩ := f_jn hf
          have J71 : ∀ (j71s0 : Int32), K71 j71s0 = some (r, Sr) → GoM G l 4 (TmR G (some (.int r)) 97 Sr 0 0) mX7_forged 71 [(0, .ref a0), (2, .int l7_2), (3, .int l7_3), (4, .int x60_4)] [.int j71s0] S := by
            intro j71s0 hf
            rw [eK71] at hf
            refine Go.istore_n 72 [(1, .int j71s0), (0, .ref a0), (2, .int l7_2), (3, .int l7_3), (4, .int x60_4)] rfl dX7_forged_71 (by decide) rfl ?_
            refine Go.iload 4 74 rfl dX7_forged_72 rfl ?_
            refine Go.iload_n 2 75 rfl dX7_forged_74 rfl ?_
            obtain ⟨K84, eK84, hf⟩ := f_jn hf
            have J84 : ∀ (j84s0 : Int32), K84 j84s0 = some (r, Sr) → GoM G l 4 (TmR G (some (.int r)) 97 Sr 0 0) mX7_forged 84 [(0, .ref a0), (1, .int j71s0), (3, .int l7_3)] [.int j84s0] S := by
              intro j84s0 hf
              rw [eK84] at hf
              refine Go.istore_n 85 [(2, .int j84s0), (0, .ref a0), (1, .int j71s0), (3, .int l7_3)] rfl dX7_forged_84 (by decide) rfl ?_
              refine Go.inc 3 88 (1 : Int32) [(3, .int (l7_3 + (1 : Int32))), (2, .int j84s0), (0, .ref a0), (1, .int j71s0)] rfl dX7_forged_85 rfl ci_1 (by decide) rfl ?_
              refine Go.goto 7 dX7_forged_88 rfl ?_
              exact Go.sub [2, 3, 1, 0] [(0, .ref a0), (1, .int j71s0), (2, .int j84s0), (3, .int (l7_3 + (1 : Int32)))] rfl (ih j71s0 j84s0 (l7_3 + (1 : Int32)) hf)
            clear eK84
            refine Go.icmp_le 83 78 rfl dX7_forged_75 rfl (fun hc => ?_) (fun hc => ?_)
            · replace hf := f_if hf hc
              refine Go.iload_n 2 84 rfl dX7_forged_83 rfl ?_
              exact Go.sub [1, 0, 3] [(0, .ref a0), (1, .int j71s0), (3, .int l7_3)] rfl (J84 l7_2 hf)
            · replace hf := f_el hf hc
              refine Go.iload 4 80 rfl dX7_forged_78 rfl ?_
              refine Go.goto 84 dX7_forged_80 rfl ?_
              exact Go.sub [1, 0, 3] [(0, .ref a0), (1, .int j71s0), (3, .int l7_3)] rfl (J84 x60_4 hf)
          clear eK71
          refine Go.icmp_le 70 66 rfl dX7_forged_63 rfl (fun hc => ?_) (fun hc => ?_)
          · replace hf := f_if hf hc
            refine Go.iload_n 1 71 rfl dX7_forged_70 rfl ?_
            exact Go.sub [0, 2, 3, 4] [(0, .ref a0), (2, .int l7_2), (3, .int l7_3), (4, .int x60_4)] rfl (J71 l7_1 hf)
          · replace hf := f_el hf hc
            refine Go.iload_n 3 67 rfl dX7_forged_66 rfl ?_
            refine Go.goto 71 dX7_forged_67 rfl ?_
            exact Go.sub [0, 2, 3, 4] [(0, .ref a0), (2, .int l7_2), (3, .int l7_3), (4, .int x60_4)] rfl (J71 l7_3 hf)
        clear eK60
        have L23 : ∀ (fu : Nat) (l23_4 : Int32) (l23_5 : Int32), F_X7_forged_L23 n S a0 l7_3 k9 K60 fu l23_4 l23_5 = some (r, Sr) → GoM G l 4 (TmR G (some (.int r)) 97 Sr 0 0) mX7_forged 23 [(0, .ref a0), (1, .int l7_1), (2, .int l7_2), (3, .int l7_3), (4, .int l23_4), (5, .int l23_5)] [] S := by
          intro fu
          induction fu with
          | zero => intro l23_4 l23_5 hf; rw [F_X7_forged_L23] at hf; cases hf
          | succ fu ih =>
            intro l23_4 l23_5 hf
            rw [F_X7_forged_L23] at hf
            refine Go.iload 5 25 rfl dX7_forged_23 rfl ?_
            refine Go.aload_n 0 26 rfl dX7_forged_25 rfl ?_
            refine Go.getR 29 rfl dX7_forged_26 fl_X7_22 rfl (isT_lt ha0) (isT_sh ha0) qk9 ?_
            refine Go.iconst (1 : Int32) 30 rfl dX7_forged_29 ci_1 ?_
            obtain ⟨g30, hf⟩ := f_grd hf
            refine Go.iald 31 rfl dX7_forged_30 (isT_lt hk9) (isT_sh hk9) g30 ?_
            refine Go.icmp_ge 60 34 rfl dX7_forged_31 rfl (fun hc => ?_) (fun hc => ?_)
            · replace hf := f_if hf hc
              exact Go.sub [0, 1, 2, 3, 4] [(0, .ref a0), (1, .int l7_1), (2, .int l7_2), (3, .int l7_3), (4, .int l23_4)] rfl (J60 l23_4 hf)
            · replace hf := f_el hf hc
              refine Go.iload 4 36 rfl dX7_forged_34 rfl ?_
              refine Go.aload_n 0 37 rfl dX7_forged_36 rfl ?_
              refine Go.iload 5 39 rfl dX7_forged_37 rfl ?_
              refine Go.iload_n 3 40 rfl dX7_forged_39 rfl ?_
              obtain ⟨r40, er40, hf⟩ := f_bnd hf
              refine Go.cV 43 [.int l23_5, .int l7_3] [.int l23_4] (C_X7_isFit G l n S a0 l23_5 l7_3 r40 ha0 er40) rfl dX7_forged_40 cv_X7_139 ha0 (by decide) (by decide) rfl (Nat.le_of_ble_eq_true rfl) ?_
              obtain ⟨K51, eK51, hf⟩ := f_jn hf
              have J51 : ∀ (j51s1 : Int32), K51 j51s1 = some (r, Sr) → GoM G l 4 (TmR G (some (.int r)) 97 Sr 0 0) mX7_forged 51 [(0, .ref a0), (1, .int l7_1), (2, .int l7_2), (3, .int l7_3), (5, .int l23_5)] [.int j51s1, .int l23_4] S := by
                intro j51s1 hf
                rw [eK51] at hf
                refine Go.iadd 52 rfl dX7_forged_51 ?_
                obtain ⟨v52, ev52, hf⟩ := f_nm hf
                refine Go.topi v52 ev52 ?_
                refine Go.istore 54 [(4, .int v52), (0, .ref a0), (1, .int l7_1), (2, .int l7_2), (3, .int l7_3), (5, .int l23_5)] rfl dX7_forged_52 (by decide) rfl ?_
                refine Go.inc 5 57 (1 : Int32) [(5, .int (l23_5 + (1 : Int32))), (4, .int v52), (0, .ref a0), (1, .int l7_1), (2, .int l7_2), (3, .int l7_3)] rfl dX7_forged_54 rfl ci_1 (by decide) rfl ?_
                refine Go.goto 23 dX7_forged_57 rfl ?_
                exact Go.sub [2, 3, 4, 5, 1, 0] [(0, .ref a0), (1, .int l7_1), (2, .int l7_2), (3, .int l7_3), (4, .int v52), (5, .int (l23_5 + (1 : Int32)))] rfl (ih v52 (l23_5 + (1 : Int32)) hf)
              clear eK51
              refine Go.if_eq 50 46 rfl dX7_forged_43 rfl (fun hc => ?_) (fun hc => ?_)
              · replace hf := f_if hf hc
                refine Go.iconst (0 : Int32) 51 rfl dX7_forged_50 ci_0 ?_
                exact Go.sub [0, 1, 2, 3, 5] [(0, .ref a0), (1, .int l7_1), (2, .int l7_2), (3, .int l7_3), (5, .int l23_5)] rfl (J51 (0 : Int32) hf)
              · replace hf := f_el hf hc
                refine Go.iconst (1 : Int32) 47 rfl dX7_forged_46 ci_1 ?_
                refine Go.goto 51 dX7_forged_47 rfl ?_
                exact Go.sub [0, 1, 2, 3, 5] [(0, .ref a0), (1, .int l7_1), (2, .int l7_2), (3, .int l7_3), (5, .int l23_5)] rfl (J51 (1 : Int32) hf)
        exact Go.sub [2, 3, 4, 5, 1, 0] [(0, .ref a0), (1, .int l7_1), (2, .int l7_2), (3, .int l7_3), (4, .int (0 : Int32)), (5, .int (0 : Int32))] rfl (L23 n (0 : Int32) (0 : Int32) hf)
  exact Go.sub [3, 2, 1, 0] [(0, .ref a0), (1, .int (-9 : Int32)), (2, .int (-1 : Int32)), (3, .int (0 : Int32))] rfl (L7 n (-9 : Int32) (-1 : Int32) (0 : Int32) hf)
theorem dX7_lesser_0 : decode cX7_lesser 0 = .ok (.iload_n 0, 1) := by decide +kernel
theorem dX7_lesser_1 : decode cX7_lesser 1 = .ok (.iload_n 1, 1) := by decide +kernel
theorem dX7_lesser_2 : decode cX7_lesser 2 = .ok (.if_icmp .ge 7, 3) := by decide +kernel
theorem dX7_lesser_5 : decode cX7_lesser 5 = .ok (.iload_n 0, 1) := by decide +kernel
theorem dX7_lesser_6 : decode cX7_lesser 6 = .ok (.goto 4, 3) := by decide +kernel
theorem dX7_lesser_9 : decode cX7_lesser 9 = .ok (.iload_n 1, 1) := by decide +kernel
theorem dX7_lesser_10 : decode cX7_lesser 10 = .ok (.ireturn, 1) := by decide +kernel
def F_X7_lesser (n : Nat) (S : aSt) (a0 : Int32) (a1 : Int32) : Option Int32 :=
if a1 ≤ a0 then (some a1) else
some a0
set_option maxHeartbeats 4000000 in
set_option maxRecDepth 100000 in
theorem C_X7_lesser (G : aG) (l : Launch) (n : Nat) (S : aSt) (a0 : Int32) (a1 : Int32) (r : Int32)  (hf : F_X7_lesser n S a0 a1 = some r) : Ctr G l yX7_lesser mX7_lesser (rmM 1) 97 97 S [.int a0, .int a1] (some (.int r)) S := by
  refine Ctr.of (by decide) rfl rfl (Nat.le_of_ble_eq_true rfl) [(0, .int a0), (1, .int a1)] rfl ?_
  unfold F_X7_lesser at hf
  refine Go.iload_n 0 1 rfl dX7_lesser_0 rfl ?_
  refine Go.iload_n 1 2 rfl dX7_lesser_1 rfl ?_
  refine Go.icmp_ge 9 5 rfl dX7_lesser_2 rfl (fun hc => ?_) (fun hc => ?_)
  · replace hf := f_if hf hc
    refine Go.iload_n 1 10 rfl dX7_lesser_9 rfl ?_
    exact Go.ir rfl dX7_lesser_10 hf
  · replace hf := f_el hf hc
    refine Go.iload_n 0 6 rfl dX7_lesser_5 rfl ?_
    refine Go.goto 10 dX7_lesser_6 rfl ?_
    exact Go.ir rfl dX7_lesser_10 hf
theorem dX7_manyThere_0 : decode cX7_manyThere 0 = .ok (.iconst 0, 1) := by decide +kernel
theorem dX7_manyThere_1 : decode cX7_manyThere 1 = .ok (.istore 4, 2) := by decide +kernel
theorem dX7_manyThere_3 : decode cX7_manyThere 3 = .ok (.iconst 0, 1) := by decide +kernel
theorem dX7_manyThere_4 : decode cX7_manyThere 4 = .ok (.istore 5, 2) := by decide +kernel
theorem dX7_manyThere_6 : decode cX7_manyThere 6 = .ok (.iload 5, 2) := by decide +kernel
theorem dX7_manyThere_8 : decode cX7_manyThere 8 = .ok (.aload_n 0, 1) := by decide +kernel
theorem dX7_manyThere_9 : decode cX7_manyThere 9 = .ok (.getfield 7, 3) := by decide +kernel
theorem dX7_manyThere_12 : decode cX7_manyThere 12 = .ok (.iload_n 1, 1) := by decide +kernel
theorem dX7_manyThere_13 : decode cX7_manyThere 13 = .ok (.iaload, 1) := by decide +kernel
theorem dX7_manyThere_14 : decode cX7_manyThere 14 = .ok (.if_icmp .ge 55, 3) := by decide +kernel
theorem dX7_manyThere_17 : decode cX7_manyThere 17 = .ok (.aload_n 0, 1) := by decide +kernel
theorem dX7_manyThere_18 : decode cX7_manyThere 18 = .ok (.getfield 13, 3) := by decide +kernel
theorem dX7_manyThere_21 : decode cX7_manyThere 21 = .ok (.bipush 40, 2) := by decide +kernel
theorem dX7_manyThere_23 : decode cX7_manyThere 23 = .ok (.iload_n 1, 1) := by decide +kernel
theorem dX7_manyThere_24 : decode cX7_manyThere 24 = .ok (.imul, 1) := by decide +kernel
theorem dX7_manyThere_25 : decode cX7_manyThere 25 = .ok (.iload 5, 2) := by decide +kernel
theorem dX7_manyThere_27 : decode cX7_manyThere 27 = .ok (.iadd, 1) := by decide +kernel
theorem dX7_manyThere_28 : decode cX7_manyThere 28 = .ok (.iaload, 1) := by decide +kernel
theorem dX7_manyThere_29 : decode cX7_manyThere 29 = .ok (.istore 6, 2) := by decide +kernel
theorem dX7_manyThere_31 : decode cX7_manyThere 31 = .ok (.iload 4, 2) := by decide +kernel
theorem dX7_manyThere_33 : decode cX7_manyThere 33 = .ok (.iload 6, 2) := by decide +kernel
theorem dX7_manyThere_35 : decode cX7_manyThere 35 = .ok (.bipush 10, 2) := by decide +kernel
theorem dX7_manyThere_37 : decode cX7_manyThere 37 = .ok (.irem, 1) := by decide +kernel
theorem dX7_manyThere_38 : decode cX7_manyThere 38 = .ok (.iload_n 3, 1) := by decide +kernel
theorem dX7_manyThere_39 : decode cX7_manyThere 39 = .ok (.if_icmp .ne 20, 3) := by decide +kernel
theorem dX7_manyThere_42 : decode cX7_manyThere 42 = .ok (.iload_n 2, 1) := by decide +kernel
theorem dX7_manyThere_43 : decode cX7_manyThere 43 = .ok (.ifCond .lt 12, 3) := by decide +kernel
theorem dX7_manyThere_46 : decode cX7_manyThere 46 = .ok (.iload 6, 2) := by decide +kernel
theorem dX7_manyThere_48 : decode cX7_manyThere 48 = .ok (.bipush 10, 2) := by decide +kernel
theorem dX7_manyThere_50 : decode cX7_manyThere 50 = .ok (.idiv, 1) := by decide +kernel
theorem dX7_manyThere_51 : decode cX7_manyThere 51 = .ok (.iload_n 2, 1) := by decide +kernel
theorem dX7_manyThere_52 : decode cX7_manyThere 52 = .ok (.if_icmp .ne 7, 3) := by decide +kernel
theorem dX7_manyThere_55 : decode cX7_manyThere 55 = .ok (.iconst 1, 1) := by decide +kernel
theorem dX7_manyThere_56 : decode cX7_manyThere 56 = .ok (.goto 4, 3) := by decide +kernel
theorem dX7_manyThere_59 : decode cX7_manyThere 59 = .ok (.iconst 0, 1) := by decide +kernel
theorem dX7_manyThere_60 : decode cX7_manyThere 60 = .ok (.iadd, 1) := by decide +kernel
theorem dX7_manyThere_61 : decode cX7_manyThere 61 = .ok (.istore 4, 2) := by decide +kernel
theorem dX7_manyThere_63 : decode cX7_manyThere 63 = .ok (.iinc 5 1, 3) := by decide +kernel
theorem dX7_manyThere_66 : decode cX7_manyThere 66 = .ok (.goto (-60), 3) := by decide +kernel
theorem dX7_manyThere_69 : decode cX7_manyThere 69 = .ok (.iload 4, 2) := by decide +kernel
theorem dX7_manyThere_71 : decode cX7_manyThere 71 = .ok (.ireturn, 1) := by decide +kernel
def F_X7_manyThere_L6 (S : aSt) (a0 : Nat) (a1 : Int32) (a2 : Int32) (a3 : Int32) (K69 : Int32 → Option Int32) : Nat → Int32 → Int32 → Option Int32
  | 0, _, _ => none
  | fu + 1, l6_4, l6_5 =>
    rfd (S.2.2 a0 0) 7 fun k9 =>
    grd (inb a1 (SH k9).2) <|
    if (S.1 k9 a1.toNatClampNeg) ≤ l6_5 then (K69 l6_4) else
    rfd (S.2.2 a0 1) 7 fun k18 =>
    grd (inb (((40 : Int32) * a1) + l6_5) (SH k18).2) <|
    nm (S.1 k18 (((40 : Int32) * a1) + l6_5).toNatClampNeg) fun v29 =>
    jn (fun (j60s1 : Int32) => (nm (l6_4 + j60s1) fun v61 =>
    F_X7_manyThere_L6 S a0 a1 a2 a3 K69 fu v61 (l6_5 + (1 : Int32)) : Option Int32)) fun K60 =>
    jn ((K60 (0 : Int32) : Option Int32)) fun K59 =>
    if (v29 - v29 / (10 : Int32) * (10 : Int32)) = a3 then (jn ((K60 (1 : Int32) : Option Int32)) fun K55 =>
    if a2 < 0 then (K55) else
    if (v29 / (10 : Int32)) = a2 then (K55) else
    K59) else
    K59
def F_X7_manyThere (n : Nat) (S : aSt) (a0 : Nat) (a1 : Int32) (a2 : Int32) (a3 : Int32) : Option Int32 :=
jn (fun (x69_4 : Int32) => (some x69_4 : Option Int32)) fun K69 =>
F_X7_manyThere_L6 S a0 a1 a2 a3 K69 n (0 : Int32) (0 : Int32)
set_option maxHeartbeats 4000000 in
set_option maxRecDepth 100000 in
theorem C_X7_manyThere (G : aG) (l : Launch) (n : Nat) (S : aSt) (a0 : Nat) (a1 : Int32) (a2 : Int32) (a3 : Int32) (r : Int32) (ha0 : isT a0 6 = true) (hf : F_X7_manyThere n S a0 a1 a2 a3 = some r) : Ctr G l yX7_manyThere mX7_manyThere (rmM 1) 97 97 S [.ref a0, .int a1, .int a2, .int a3] (some (.int r)) S := by
  refine Ctr.of (by decide) rfl rfl (Nat.le_of_ble_eq_true rfl) [(0, .ref a0), (1, .int a1), (2, .int a2), (3, .int a3)] rfl ?_
  unfold F_X7_manyThere at hf
  refine Go.iconst (0 : Int32) 1 rfl dX7_manyThere_0 ci_0 ?_
  refine Go.istore 3 [(4, .int (0 : Int32)), (0, .ref a0), (1, .int a1), (2, .int a2), (3, .int a3)] rfl dX7_manyThere_1 (by decide) rfl ?_
  refine Go.iconst (0 : Int32) 4 rfl dX7_manyThere_3 ci_0 ?_
  refine Go.istore 6 [(5, .int (0 : Int32)), (4, .int (0 : Int32)), (0, .ref a0), (1, .int a1), (2, .int a2), (3, .int a3)] rfl dX7_manyThere_4 (by decide) rfl ?_
  obtain ⟨K69, eK69, hf⟩ := f_jn hf
  have J69 : ∀ (x69_4 : Int32), K69 x69_4 = some r → GoM G l 1 (TmR G (some (.int r)) 97 S 0 0) mX7_manyThere 69 [(4, .int x69_4)] [] S := by
    intro x69_4 hf
    rw [eK69] at hf
    refine Go.iload 0 71 rfl dX7_manyThere_69 rfl ?_
    exact Go.ir rfl dX7_manyThere_71 hf
  clear eK69
  have L6 : ∀ (fu : Nat) (l6_4 : Int32) (l6_5 : Int32), F_X7_manyThere_L6 S a0 a1 a2 a3 K69 fu l6_4 l6_5 = some r → GoM G l 1 (TmR G (some (.int r)) 97 S 0 0) mX7_manyThere 6 [(0, .ref a0), (1, .int a1), (2, .int a2), (3, .int a3), (4, .int l6_4), (5, .int l6_5)] [] S := by
    intro fu
    induction fu with
    | zero => intro l6_4 l6_5 hf; rw [F_X7_manyThere_L6] at hf; cases hf
    | succ fu ih =>
      intro l6_4 l6_5 hf
      rw [F_X7_manyThere_L6] at hf
      refine Go.iload 5 8 rfl dX7_manyThere_6 rfl ?_
      refine Go.aload_n 0 9 rfl dX7_manyThere_8 rfl ?_
      obtain ⟨k9, qk9, hk9, hf⟩ := f_rfd hf
      refine Go.getR 12 rfl dX7_manyThere_9 fl_X7_7 rfl (isT_lt ha0) (isT_sh ha0) qk9 ?_
      refine Go.iload_n 1 13 rfl dX7_manyThere_12 rfl ?_
      obtain ⟨g13, hf⟩ := f_grd hf
      refine Go.iald 14 rfl dX7_manyThere_13 (isT_lt hk9) (isT_sh hk9) g13 ?_
      refine Go.icmp_ge 69 17 rfl dX7_manyThere_14 rfl (fun hc => ?_) (fun hc => ?_)
      · replace hf := f_if hf hc
        exact Go.sub [4] [(4, .int l6_4)] rfl (J69 l6_4 hf)
      · replace hf := f_el hf hc
        refine Go.aload_n 0 18 rfl dX7_manyThere_17 rfl ?_
        obtain ⟨k18, qk18, hk18, hf⟩ := f_rfd hf
        refine Go.getR 21 rfl dX7_manyThere_18 fl_X7_13 rfl (isT_lt ha0) (isT_sh ha0) qk18 ?_
        refine Go.bipush (40 : Int32) 23 rfl dX7_manyThere_21 cb_40 ?_
        refine Go.iload_n 1 24 rfl dX7_manyThere_23 rfl ?_
        refine Go.imul 25 rfl dX7_manyThere_24 ?_
        refine Go.iload 5 27 rfl dX7_manyThere_25 rfl ?_
        refine Go.iadd 28 rfl dX7_manyThere_27 ?_
        obtain ⟨g28, hf⟩ := f_grd hf
        refine Go.iald 29 rfl dX7_manyThere_28 (isT_lt hk18) (isT_sh hk18) g28 ?_
        obtain ⟨v29, ev29, hf⟩ := f_nm hf
        refine Go.topi v29 ev29 ?_
        refine Go.istore 31 [(6, .int v29), (0, .ref a0), (1, .int a1), (2, .int a2), (3, .int a3), (4, .int l6_4), (5, .int l6_5)] rfl dX7_manyThere_29 (by decide) rfl ?_
        refine Go.iload 5 33 rfl dX7_manyThere_31 rfl ?_
        refine Go.iload 0 35 rfl dX7_manyThere_33 rfl ?_
        refine Go.bipush (10 : Int32) 37 rfl dX7_manyThere_35 cb_10 ?_
        refine Go.irem 38 rfl dX7_manyThere_37 (by decide) ?_
        refine Go.iload_n 4 39 rfl dX7_manyThere_38 rfl ?_
        obtain ⟨K60, eK60, hf⟩ := f_jn hf
        have J60 : ∀ (j60s1 : Int32), K60 j60s1 = some r → GoM G l 1 (TmR G (some (.int r)) 97 S 0 0) mX7_manyThere 60 [(0, .ref a0), (1, .int a1), (2, .int a2), (3, .int a3), (5, .int l6_5)] [.int j60s1, .int l6_4] S := by
          intro j60s1 hf
          rw [eK60] at hf
          refine Go.iadd 61 rfl dX7_manyThere_60 ?_
          obtain ⟨v61, ev61, hf⟩ := f_nm hf
          refine Go.topi v61 ev61 ?_
          refine Go.istore 63 [(4, .int v61), (0, .ref a0), (1, .int a1), (2, .int a2), (3, .int a3), (5, .int l6_5)] rfl dX7_manyThere_61 (by decide) rfl ?_
          refine Go.inc 5 66 (1 : Int32) [(5, .int (l6_5 + (1 : Int32))), (4, .int v61), (0, .ref a0), (1, .int a1), (2, .int a2), (3, .int a3)] rfl dX7_manyThere_63 rfl ci_1 (by decide) rfl ?_
          refine Go.goto 6 dX7_manyThere_66 rfl ?_
          exact Go.sub [2, 3, 4, 5, 1, 0] [(0, .ref a0), (1, .int a1), (2, .int a2), (3, .int a3), (4, .int v61), (5, .int (l6_5 + (1 : Int32)))] rfl (ih v61 (l6_5 + (1 : Int32)) hf)
        clear eK60
        obtain ⟨K59, eK59, hf⟩ := f_jn hf
        have J59 : K59 = some r → GoM G l 1 (TmR G (some (.int r)) 97 S 0 0) mX7_manyThere 59 [(0, .ref a0), (1, .int a1), (2, .int a2), (3, .int a3), (5, .int l6_5)] [.int l6_4] S := by
          intro hf
          rw [eK59] at hf
          refine Go.iconst (0 : Int32) 60 rfl dX7_manyThere_59 ci_0 ?_
          exact J60 (0 : Int32) hf
        clear eK59
        refine Go.icmp_ne 59 42 rfl dX7_manyThere_39 rfl (fun hc => ?_) (fun hc => ?_)
        · replace hf := f_el hf hc
          exact Go.sub [1, 2, 3, 4, 6] [(0, .ref a0), (1, .int a1), (2, .int a2), (3, .int a3), (5, .int l6_5)] rfl (J59 hf)
        · replace hf := f_if hf hc
          refine Go.iload_n 3 43 rfl dX7_manyThere_42 rfl ?_
          obtain ⟨K55, eK55, hf⟩ := f_jn hf
          have J55 : K55 = some r → GoM G l 1 (TmR G (some (.int r)) 97 S 0 0) mX7_manyThere 55 [(0, .ref a0), (1, .int a1), (2, .int a2), (3, .int a3), (5, .int l6_5)] [.int l6_4] S := by
            intro hf
            rw [eK55] at hf
            refine Go.iconst (1 : Int32) 56 rfl dX7_manyThere_55 ci_1 ?_
            refine Go.goto 60 dX7_manyThere_56 rfl ?_
            exact J60 (1 : Int32) hf
          clear eK55
          refine Go.if_lt 55 46 rfl dX7_manyThere_43 rfl (fun hc => ?_) (fun hc => ?_)
          · replace hf := f_if hf hc
            exact Go.sub [1, 2, 3, 4, 6] [(0, .ref a0), (1, .int a1), (2, .int a2), (3, .int a3), (5, .int l6_5)] rfl (J55 hf)
          · replace hf := f_el hf hc
            refine Go.iload 0 48 rfl dX7_manyThere_46 rfl ?_
            refine Go.bipush (10 : Int32) 50 rfl dX7_manyThere_48 cb_10 ?_
            refine Go.idiv 51 rfl dX7_manyThere_50 (by decide) ?_
            refine Go.iload_n 3 52 rfl dX7_manyThere_51 rfl ?_
            refine Go.icmp_ne 59 55 rfl dX7_manyThere_52 rfl (fun hc => ?_) (fun hc => ?_)
            · replace hf := f_el hf hc
              exact Go.sub [1, 2, 3, 4, 6] [(0, .ref a0), (1, .int a1), (2, .int a2), (3, .int a3), (5, .int l6_5)] rfl (J59 hf)
            · replace hf := f_if hf hc
              exact Go.sub [1, 2, 3, 4, 6] [(0, .ref a0), (1, .int a1), (2, .int a2), (3, .int a3), (5, .int l6_5)] rfl (J55 hf)
  exact Go.sub [2, 3, 4, 5, 1, 0] [(0, .ref a0), (1, .int a1), (2, .int a2), (3, .int a3), (4, .int (0 : Int32)), (5, .int (0 : Int32))] rfl (L6 n (0 : Int32) (0 : Int32) hf)
theorem dX7_manyHere_0 : decode cX7_manyHere 0 = .ok (.iconst 0, 1) := by decide +kernel
theorem dX7_manyHere_1 : decode cX7_manyHere 1 = .ok (.istore_n 3, 1) := by decide +kernel
theorem dX7_manyHere_2 : decode cX7_manyHere 2 = .ok (.iconst 0, 1) := by decide +kernel
theorem dX7_manyHere_3 : decode cX7_manyHere 3 = .ok (.istore 4, 2) := by decide +kernel
theorem dX7_manyHere_5 : decode cX7_manyHere 5 = .ok (.iload 4, 2) := by decide +kernel
theorem dX7_manyHere_7 : decode cX7_manyHere 7 = .ok (.aload_n 0, 1) := by decide +kernel
theorem dX7_manyHere_8 : decode cX7_manyHere 8 = .ok (.getfield 22, 3) := by decide +kernel
theorem dX7_manyHere_11 : decode cX7_manyHere 11 = .ok (.iconst 0, 1) := by decide +kernel
theorem dX7_manyHere_12 : decode cX7_manyHere 12 = .ok (.iaload, 1) := by decide +kernel
theorem dX7_manyHere_13 : decode cX7_manyHere 13 = .ok (.if_icmp .ge 44, 3) := by decide +kernel
theorem dX7_manyHere_16 : decode cX7_manyHere 16 = .ok (.iload_n 3, 1) := by decide +kernel
theorem dX7_manyHere_17 : decode cX7_manyHere 17 = .ok (.aload_n 0, 1) := by decide +kernel
theorem dX7_manyHere_18 : decode cX7_manyHere 18 = .ok (.iload 4, 2) := by decide +kernel
theorem dX7_manyHere_20 : decode cX7_manyHere 20 = .ok (.invokevirtual 120, 3) := by decide +kernel
theorem dX7_manyHere_23 : decode cX7_manyHere 23 = .ok (.iload_n 2, 1) := by decide +kernel
theorem dX7_manyHere_24 : decode cX7_manyHere 24 = .ok (.if_icmp .ne 24, 3) := by decide +kernel
theorem dX7_manyHere_27 : decode cX7_manyHere 27 = .ok (.iload_n 1, 1) := by decide +kernel
theorem dX7_manyHere_28 : decode cX7_manyHere 28 = .ok (.ifCond .lt 16, 3) := by decide +kernel
theorem dX7_manyHere_31 : decode cX7_manyHere 31 = .ok (.aload_n 0, 1) := by decide +kernel
theorem dX7_manyHere_32 : decode cX7_manyHere 32 = .ok (.getfield 22, 3) := by decide +kernel
theorem dX7_manyHere_35 : decode cX7_manyHere 35 = .ok (.iconst 3, 1) := by decide +kernel
theorem dX7_manyHere_36 : decode cX7_manyHere 36 = .ok (.iload 4, 2) := by decide +kernel
theorem dX7_manyHere_38 : decode cX7_manyHere 38 = .ok (.iadd, 1) := by decide +kernel
theorem dX7_manyHere_39 : decode cX7_manyHere 39 = .ok (.iaload, 1) := by decide +kernel
theorem dX7_manyHere_40 : decode cX7_manyHere 40 = .ok (.iload_n 1, 1) := by decide +kernel
theorem dX7_manyHere_41 : decode cX7_manyHere 41 = .ok (.if_icmp .ne 7, 3) := by decide +kernel
theorem dX7_manyHere_44 : decode cX7_manyHere 44 = .ok (.iconst 1, 1) := by decide +kernel
theorem dX7_manyHere_45 : decode cX7_manyHere 45 = .ok (.goto 4, 3) := by decide +kernel
theorem dX7_manyHere_48 : decode cX7_manyHere 48 = .ok (.iconst 0, 1) := by decide +kernel
theorem dX7_manyHere_49 : decode cX7_manyHere 49 = .ok (.iadd, 1) := by decide +kernel
theorem dX7_manyHere_50 : decode cX7_manyHere 50 = .ok (.istore_n 3, 1) := by decide +kernel
theorem dX7_manyHere_51 : decode cX7_manyHere 51 = .ok (.iinc 4 1, 3) := by decide +kernel
theorem dX7_manyHere_54 : decode cX7_manyHere 54 = .ok (.goto (-49), 3) := by decide +kernel
theorem dX7_manyHere_57 : decode cX7_manyHere 57 = .ok (.iload_n 3, 1) := by decide +kernel
theorem dX7_manyHere_58 : decode cX7_manyHere 58 = .ok (.ireturn, 1) := by decide +kernel
def F_X7_manyHere_L5 (n : Nat) (S : aSt) (a0 : Nat) (a1 : Int32) (a2 : Int32) (K57 : Int32 → Option Int32) : Nat → Int32 → Int32 → Option Int32
  | 0, _, _ => none
  | fu + 1, l5_3, l5_4 =>
    rfd (S.2.2 a0 4) 7 fun k8 =>
    grd (inb (0 : Int32) (SH k8).2) <|
    if (S.1 k8 (0 : Int32).toNatClampNeg) ≤ l5_4 then (K57 l5_3) else
    (F_X7_means n S a0 l5_4).bind fun r20 =>
    jn (fun (j49s1 : Int32) => (nm (l5_3 + j49s1) fun v50 =>
    F_X7_manyHere_L5 n S a0 a1 a2 K57 fu v50 (l5_4 + (1 : Int32)) : Option Int32)) fun K49 =>
    jn ((K49 (0 : Int32) : Option Int32)) fun K48 =>
    if r20 = a2 then (jn ((K49 (1 : Int32) : Option Int32)) fun K44 =>
    if a1 < 0 then (K44) else
    grd (inb ((3 : Int32) + l5_4) (SH k8).2) <|
    if (S.1 k8 ((3 : Int32) + l5_4).toNatClampNeg) = a1 then (K44) else
    K48) else
    K48
def F_X7_manyHere (n : Nat) (S : aSt) (a0 : Nat) (a1 : Int32) (a2 : Int32) : Option Int32 :=
jn (fun (x57_3 : Int32) => (some x57_3 : Option Int32)) fun K57 =>
F_X7_manyHere_L5 n S a0 a1 a2 K57 n (0 : Int32) (0 : Int32)
set_option maxHeartbeats 4000000 in
set_option maxRecDepth 100000 in
theorem C_X7_manyHere (G : aG) (l : Launch) (n : Nat) (S : aSt) (a0 : Nat) (a1 : Int32) (a2 : Int32) (r : Int32) (ha0 : isT a0 6 = true) (hf : F_X7_manyHere n S a0 a1 a2 = some r) : Ctr G l yX7_manyHere mX7_manyHere (rmM 2) 97 97 S [.ref a0, .int a1, .int a2] (some (.int r)) S := by
  refine Ctr.of (by decide) rfl rfl (Nat.le_of_ble_eq_true rfl) [(0, .ref a0), (1, .int a1), (2, .int a2)] rfl ?_
  unfold F_X7_manyHere at hf
  refine Go.iconst (0 : Int32) 1 rfl dX7_manyHere_0 ci_0 ?_
  refine Go.istore_n 2 [(3, .int (0 : Int32)), (0, .ref a0), (1, .int a1), (2, .int a2)] rfl dX7_manyHere_1 (by decide) rfl ?_
  refine Go.iconst (0 : Int32) 3 rfl dX7_manyHere_2 ci_0 ?_
  refine Go.istore 5 [(4, .int (0 : Int32)), (3, .int (0 : Int32)), (0, .ref a0), (1, .int a1), (2, .int a2)] rfl dX7_manyHere_3 (by decide) rfl ?_
  obtain ⟨K57, eK57, hf⟩ := f_jn hf
  have J57 : ∀ (x57_3 : Int32), K57 x57_3 = some r → GoM G l 2 (TmR G (some (.int r)) 97 S 0 0) mX7_manyHere 57 [(3, .int x57_3)] [] S := by
    intro x57_3 hf
    rw [eK57] at hf
    refine Go.iload_n 0 58 rfl dX7_manyHere_57 rfl ?_
    exact Go.ir rfl dX7_manyHere_58 hf
  clear eK57
  have L5 : ∀ (fu : Nat) (l5_3 : Int32) (l5_4 : Int32), F_X7_manyHere_L5 n S a0 a1 a2 K57 fu l5_3 l5_4 = some r → GoM G l 2 (TmR G (some (.int r)) 97 S 0 0) mX7_manyHere 5 [(0, .ref a0), (1, .int a1), (2, .int a2), (3, .int l5_3), (4, .int l5_4)] [] S := by
    intro fu
    induction fu with
    | zero => intro l5_3 l5_4 hf; rw [F_X7_manyHere_L5] at hf; cases hf
    | succ fu ih =>
      intro l5_3 l5_4 hf
      rw [F_X7_manyHere_L5] at hf
      refine Go.iload 4 7 rfl dX7_manyHere_5 rfl ?_
      refine Go.aload_n 0 8 rfl dX7_manyHere_7 rfl ?_
      obtain ⟨k8, qk8, hk8, hf⟩ := f_rfd hf
      refine Go.getR 11 rfl dX7_manyHere_8 fl_X7_22 rfl (isT_lt ha0) (isT_sh ha0) qk8 ?_
      refine Go.iconst (0 : Int32) 12 rfl dX7_manyHere_11 ci_0 ?_
      obtain ⟨g12, hf⟩ := f_grd hf
      refine Go.iald 13 rfl dX7_manyHere_12 (isT_lt hk8) (isT_sh hk8) g12 ?_
      refine Go.icmp_ge 57 16 rfl dX7_manyHere_13 rfl (fun hc => ?_) (fun hc => ?_)
      · replace hf := f_if hf hc
        exact Go.sub [3] [(3, .int l5_3)] rfl (J57 l5_3 hf)
      · replace hf := f_el hf hc
        refine Go.iload_n 3 17 rfl dX7_manyHere_16 rfl ?_
        refine Go.aload_n 0 18 rfl dX7_manyHere_17 rfl ?_
        refine Go.iload 4 20 rfl dX7_manyHere_18 rfl ?_
        obtain ⟨r20, er20, hf⟩ := f_bnd hf
        refine Go.cV 23 [.int l5_4] [.int l5_3] (C_X7_means G l n S a0 l5_4 r20 ha0 er20) rfl dX7_manyHere_20 cv_X7_120 ha0 (by decide) (by decide) rfl (Nat.le_of_ble_eq_true rfl) ?_
        refine Go.iload_n 2 24 rfl dX7_manyHere_23 rfl ?_
        obtain ⟨K49, eK49, hf⟩ := f_jn hf
        have J49 : ∀ (j49s1 : Int32), K49 j49s1 = some r → GoM G l 2 (TmR G (some (.int r)) 97 S 0 0) mX7_manyHere 49 [(0, .ref a0), (1, .int a1), (2, .int a2), (4, .int l5_4)] [.int j49s1, .int l5_3] S := by
          intro j49s1 hf
          rw [eK49] at hf
          refine Go.iadd 50 rfl dX7_manyHere_49 ?_
          obtain ⟨v50, ev50, hf⟩ := f_nm hf
          refine Go.topi v50 ev50 ?_
          refine Go.istore_n 51 [(3, .int v50), (0, .ref a0), (1, .int a1), (2, .int a2), (4, .int l5_4)] rfl dX7_manyHere_50 (by decide) rfl ?_
          refine Go.inc 4 54 (1 : Int32) [(4, .int (l5_4 + (1 : Int32))), (3, .int v50), (0, .ref a0), (1, .int a1), (2, .int a2)] rfl dX7_manyHere_51 rfl ci_1 (by decide) rfl ?_
          refine Go.goto 5 dX7_manyHere_54 rfl ?_
          exact Go.sub [2, 3, 4, 1, 0] [(0, .ref a0), (1, .int a1), (2, .int a2), (3, .int v50), (4, .int (l5_4 + (1 : Int32)))] rfl (ih v50 (l5_4 + (1 : Int32)) hf)
        clear eK49
        obtain ⟨K48, eK48, hf⟩ := f_jn hf
        have J48 : K48 = some r → GoM G l 2 (TmR G (some (.int r)) 97 S 0 0) mX7_manyHere 48 [(0, .ref a0), (1, .int a1), (2, .int a2), (4, .int l5_4)] [.int l5_3] S := by
          intro hf
          rw [eK48] at hf
          refine Go.iconst (0 : Int32) 49 rfl dX7_manyHere_48 ci_0 ?_
          exact J49 (0 : Int32) hf
        clear eK48
        refine Go.icmp_ne 48 27 rfl dX7_manyHere_24 rfl (fun hc => ?_) (fun hc => ?_)
        · replace hf := f_el hf hc
          exact Go.sub [0, 1, 2, 4] [(0, .ref a0), (1, .int a1), (2, .int a2), (4, .int l5_4)] rfl (J48 hf)
        · replace hf := f_if hf hc
          refine Go.iload_n 1 28 rfl dX7_manyHere_27 rfl ?_
          obtain ⟨K44, eK44, hf⟩ := f_jn hf
          have J44 : K44 = some r → GoM G l 2 (TmR G (some (.int r)) 97 S 0 0) mX7_manyHere 44 [(0, .ref a0), (1, .int a1), (2, .int a2), (4, .int l5_4)] [.int l5_3] S := by
            intro hf
            rw [eK44] at hf
            refine Go.iconst (1 : Int32) 45 rfl dX7_manyHere_44 ci_1 ?_
            refine Go.goto 49 dX7_manyHere_45 rfl ?_
            exact J49 (1 : Int32) hf
          clear eK44
          refine Go.if_lt 44 31 rfl dX7_manyHere_28 rfl (fun hc => ?_) (fun hc => ?_)
          · replace hf := f_if hf hc
            exact Go.sub [0, 1, 2, 4] [(0, .ref a0), (1, .int a1), (2, .int a2), (4, .int l5_4)] rfl (J44 hf)
          · replace hf := f_el hf hc
            refine Go.aload_n 0 32 rfl dX7_manyHere_31 rfl ?_
            refine Go.getR 35 rfl dX7_manyHere_32 fl_X7_22 rfl (isT_lt ha0) (isT_sh ha0) qk8 ?_
            refine Go.iconst (3 : Int32) 36 rfl dX7_manyHere_35 ci_3 ?_
            refine Go.iload 4 38 rfl dX7_manyHere_36 rfl ?_
            refine Go.iadd 39 rfl dX7_manyHere_38 ?_
            obtain ⟨g39, hf⟩ := f_grd hf
            refine Go.iald 40 rfl dX7_manyHere_39 (isT_lt hk8) (isT_sh hk8) g39 ?_
            refine Go.iload_n 1 41 rfl dX7_manyHere_40 rfl ?_
            refine Go.icmp_ne 48 44 rfl dX7_manyHere_41 rfl (fun hc => ?_) (fun hc => ?_)
            · replace hf := f_el hf hc
              exact Go.sub [0, 1, 2, 4] [(0, .ref a0), (1, .int a1), (2, .int a2), (4, .int l5_4)] rfl (J48 hf)
            · replace hf := f_if hf hc
              exact Go.sub [0, 1, 2, 4] [(0, .ref a0), (1, .int a1), (2, .int a2), (4, .int l5_4)] rfl (J44 hf)
  exact Go.sub [2, 3, 4, 1, 0] [(0, .ref a0), (1, .int a1), (2, .int a2), (3, .int (0 : Int32)), (4, .int (0 : Int32))] rfl (L5 n (0 : Int32) (0 : Int32) hf)
theorem dX7_beside_0 : decode cX7_beside 0 = .ok (.iload_n 1, 1) := by decide +kernel
theorem dX7_beside_1 : decode cX7_beside 1 = .ok (.invokestatic 72, 3) := by decide +kernel
theorem dX7_beside_4 : decode cX7_beside 4 = .ok (.ifCond .ne 5, 3) := by decide +kernel
theorem dX7_beside_7 : decode cX7_beside 7 = .ok (.iconst (-1), 1) := by decide +kernel
theorem dX7_beside_8 : decode cX7_beside 8 = .ok (.ireturn, 1) := by decide +kernel
theorem dX7_beside_9 : decode cX7_beside 9 = .ok (.aload_n 0, 1) := by decide +kernel
theorem dX7_beside_10 : decode cX7_beside 10 = .ok (.getfield 7, 3) := by decide +kernel
theorem dX7_beside_13 : decode cX7_beside 13 = .ok (.iload_n 1, 1) := by decide +kernel
theorem dX7_beside_14 : decode cX7_beside 14 = .ok (.iaload, 1) := by decide +kernel
theorem dX7_beside_15 : decode cX7_beside 15 = .ok (.ifCond .ge 9, 3) := by decide +kernel
theorem dX7_beside_18 : decode cX7_beside 18 = .ok (.aload_n 0, 1) := by decide +kernel
theorem dX7_beside_19 : decode cX7_beside 19 = .ok (.iconst 1, 1) := by decide +kernel
theorem dX7_beside_20 : decode cX7_beside 20 = .ok (.invokevirtual 76, 3) := by decide +kernel
theorem dX7_beside_23 : decode cX7_beside 23 = .ok (.ireturn, 1) := by decide +kernel
theorem dX7_beside_24 : decode cX7_beside 24 = .ok (.aload_n 0, 1) := by decide +kernel
theorem dX7_beside_25 : decode cX7_beside 25 = .ok (.getfield 7, 3) := by decide +kernel
theorem dX7_beside_28 : decode cX7_beside 28 = .ok (.iload_n 1, 1) := by decide +kernel
theorem dX7_beside_29 : decode cX7_beside 29 = .ok (.iaload, 1) := by decide +kernel
theorem dX7_beside_30 : decode cX7_beside 30 = .ok (.bipush 7, 2) := by decide +kernel
theorem dX7_beside_32 : decode cX7_beside 32 = .ok (.if_icmp .le 9, 3) := by decide +kernel
theorem dX7_beside_35 : decode cX7_beside 35 = .ok (.aload_n 0, 1) := by decide +kernel
theorem dX7_beside_36 : decode cX7_beside 36 = .ok (.iconst 5, 1) := by decide +kernel
theorem dX7_beside_37 : decode cX7_beside 37 = .ok (.invokevirtual 76, 3) := by decide +kernel
theorem dX7_beside_40 : decode cX7_beside 40 = .ok (.ireturn, 1) := by decide +kernel
theorem dX7_beside_41 : decode cX7_beside 41 = .ok (.iconst 0, 1) := by decide +kernel
theorem dX7_beside_42 : decode cX7_beside 42 = .ok (.istore_n 2, 1) := by decide +kernel
theorem dX7_beside_43 : decode cX7_beside 43 = .ok (.iload_n 2, 1) := by decide +kernel
theorem dX7_beside_44 : decode cX7_beside 44 = .ok (.aload_n 0, 1) := by decide +kernel
theorem dX7_beside_45 : decode cX7_beside 45 = .ok (.getfield 7, 3) := by decide +kernel
theorem dX7_beside_48 : decode cX7_beside 48 = .ok (.iload_n 1, 1) := by decide +kernel
theorem dX7_beside_49 : decode cX7_beside 49 = .ok (.iaload, 1) := by decide +kernel
theorem dX7_beside_50 : decode cX7_beside 50 = .ok (.if_icmp .ge 37, 3) := by decide +kernel
theorem dX7_beside_53 : decode cX7_beside 53 = .ok (.aload_n 0, 1) := by decide +kernel
theorem dX7_beside_54 : decode cX7_beside 54 = .ok (.getfield 13, 3) := by decide +kernel
theorem dX7_beside_57 : decode cX7_beside 57 = .ok (.bipush 40, 2) := by decide +kernel
theorem dX7_beside_59 : decode cX7_beside 59 = .ok (.iload_n 1, 1) := by decide +kernel
theorem dX7_beside_60 : decode cX7_beside 60 = .ok (.imul, 1) := by decide +kernel
theorem dX7_beside_61 : decode cX7_beside 61 = .ok (.iload_n 2, 1) := by decide +kernel
theorem dX7_beside_62 : decode cX7_beside 62 = .ok (.iadd, 1) := by decide +kernel
theorem dX7_beside_63 : decode cX7_beside 63 = .ok (.iaload, 1) := by decide +kernel
theorem dX7_beside_64 : decode cX7_beside 64 = .ok (.i2l, 1) := by decide +kernel
theorem dX7_beside_65 : decode cX7_beside 65 = .ok (.lconst 0, 1) := by decide +kernel
theorem dX7_beside_66 : decode cX7_beside 66 = .ok (.ldc2_w 99, 3) := by decide +kernel
theorem dX7_beside_69 : decode cX7_beside 69 = .ok (.invokestatic 66, 3) := by decide +kernel
theorem dX7_beside_72 : decode cX7_beside 72 = .ok (.ifCond .ne 9, 3) := by decide +kernel
theorem dX7_beside_75 : decode cX7_beside 75 = .ok (.aload_n 0, 1) := by decide +kernel
theorem dX7_beside_76 : decode cX7_beside 76 = .ok (.iconst 3, 1) := by decide +kernel
theorem dX7_beside_77 : decode cX7_beside 77 = .ok (.invokevirtual 76, 3) := by decide +kernel
theorem dX7_beside_80 : decode cX7_beside 80 = .ok (.ireturn, 1) := by decide +kernel
theorem dX7_beside_81 : decode cX7_beside 81 = .ok (.iinc 2 1, 3) := by decide +kernel
theorem dX7_beside_84 : decode cX7_beside 84 = .ok (.goto (-41), 3) := by decide +kernel
theorem dX7_beside_87 : decode cX7_beside 87 = .ok (.iconst 0, 1) := by decide +kernel
theorem dX7_beside_88 : decode cX7_beside 88 = .ok (.istore_n 2, 1) := by decide +kernel
theorem dX7_beside_89 : decode cX7_beside 89 = .ok (.iconst 0, 1) := by decide +kernel
theorem dX7_beside_90 : decode cX7_beside 90 = .ok (.istore_n 3, 1) := by decide +kernel
theorem dX7_beside_91 : decode cX7_beside 91 = .ok (.iconst 0, 1) := by decide +kernel
theorem dX7_beside_92 : decode cX7_beside 92 = .ok (.istore 4, 2) := by decide +kernel
theorem dX7_beside_94 : decode cX7_beside 94 = .ok (.iload 4, 2) := by decide +kernel
theorem dX7_beside_96 : decode cX7_beside 96 = .ok (.bipush 10, 2) := by decide +kernel
theorem dX7_beside_98 : decode cX7_beside 98 = .ok (.if_icmp .ge 69, 3) := by decide +kernel
theorem dX7_beside_101 : decode cX7_beside 101 = .ok (.iload_n 3, 1) := by decide +kernel
theorem dX7_beside_102 : decode cX7_beside 102 = .ok (.aload_n 0, 1) := by decide +kernel
theorem dX7_beside_103 : decode cX7_beside 103 = .ok (.iload_n 1, 1) := by decide +kernel
theorem dX7_beside_104 : decode cX7_beside 104 = .ok (.iconst (-1), 1) := by decide +kernel
theorem dX7_beside_105 : decode cX7_beside 105 = .ok (.iload 4, 2) := by decide +kernel
theorem dX7_beside_107 : decode cX7_beside 107 = .ok (.invokevirtual 201, 3) := by decide +kernel
theorem dX7_beside_110 : decode cX7_beside 110 = .ok (.aload_n 0, 1) := by decide +kernel
theorem dX7_beside_111 : decode cX7_beside 111 = .ok (.iconst (-1), 1) := by decide +kernel
theorem dX7_beside_112 : decode cX7_beside 112 = .ok (.iload 4, 2) := by decide +kernel
theorem dX7_beside_114 : decode cX7_beside 114 = .ok (.invokevirtual 204, 3) := by decide +kernel
theorem dX7_beside_117 : decode cX7_beside 117 = .ok (.invokestatic 207, 3) := by decide +kernel
theorem dX7_beside_120 : decode cX7_beside 120 = .ok (.iadd, 1) := by decide +kernel
theorem dX7_beside_121 : decode cX7_beside 121 = .ok (.istore_n 3, 1) := by decide +kernel
theorem dX7_beside_122 : decode cX7_beside 122 = .ok (.iconst 0, 1) := by decide +kernel
theorem dX7_beside_123 : decode cX7_beside 123 = .ok (.istore 5, 2) := by decide +kernel
theorem dX7_beside_125 : decode cX7_beside 125 = .ok (.iload 5, 2) := by decide +kernel
theorem dX7_beside_127 : decode cX7_beside 127 = .ok (.bipush 6, 2) := by decide +kernel
theorem dX7_beside_129 : decode cX7_beside 129 = .ok (.if_icmp .ge 32, 3) := by decide +kernel
theorem dX7_beside_132 : decode cX7_beside 132 = .ok (.iload_n 2, 1) := by decide +kernel
theorem dX7_beside_133 : decode cX7_beside 133 = .ok (.aload_n 0, 1) := by decide +kernel
theorem dX7_beside_134 : decode cX7_beside 134 = .ok (.iload_n 1, 1) := by decide +kernel
theorem dX7_beside_135 : decode cX7_beside 135 = .ok (.iload 5, 2) := by decide +kernel
theorem dX7_beside_137 : decode cX7_beside 137 = .ok (.iload 4, 2) := by decide +kernel
theorem dX7_beside_139 : decode cX7_beside 139 = .ok (.invokevirtual 201, 3) := by decide +kernel
theorem dX7_beside_142 : decode cX7_beside 142 = .ok (.aload_n 0, 1) := by decide +kernel
theorem dX7_beside_143 : decode cX7_beside 143 = .ok (.iload 5, 2) := by decide +kernel
theorem dX7_beside_145 : decode cX7_beside 145 = .ok (.iload 4, 2) := by decide +kernel
theorem dX7_beside_147 : decode cX7_beside 147 = .ok (.invokevirtual 204, 3) := by decide +kernel
theorem dX7_beside_150 : decode cX7_beside 150 = .ok (.invokestatic 207, 3) := by decide +kernel
theorem dX7_beside_153 : decode cX7_beside 153 = .ok (.iadd, 1) := by decide +kernel
theorem dX7_beside_154 : decode cX7_beside 154 = .ok (.istore_n 2, 1) := by decide +kernel
theorem dX7_beside_155 : decode cX7_beside 155 = .ok (.iinc 5 1, 3) := by decide +kernel
theorem dX7_beside_158 : decode cX7_beside 158 = .ok (.goto (-33), 3) := by decide +kernel
theorem dX7_beside_161 : decode cX7_beside 161 = .ok (.iinc 4 1, 3) := by decide +kernel
theorem dX7_beside_164 : decode cX7_beside 164 = .ok (.goto (-70), 3) := by decide +kernel
theorem dX7_beside_167 : decode cX7_beside 167 = .ok (.aload_n 0, 1) := by decide +kernel
theorem dX7_beside_168 : decode cX7_beside 168 = .ok (.iload_n 3, 1) := by decide +kernel
theorem dX7_beside_169 : decode cX7_beside 169 = .ok (.iload_n 2, 1) := by decide +kernel
theorem dX7_beside_170 : decode cX7_beside 170 = .ok (.isub, 1) := by decide +kernel
theorem dX7_beside_171 : decode cX7_beside 171 = .ok (.invokevirtual 80, 3) := by decide +kernel
theorem dX7_beside_174 : decode cX7_beside 174 = .ok (.istore 4, 2) := by decide +kernel
theorem dX7_beside_176 : decode cX7_beside 176 = .ok (.iload_n 2, 1) := by decide +kernel
theorem dX7_beside_177 : decode cX7_beside 177 = .ok (.ireturn, 1) := by decide +kernel
def F_X7_beside_L125 (n : Nat) (a0 : Nat) (a1 : Int32) (x87S : aSt) (l94_4 : Int32) (K161 : Int32 → Option (Int32 × aSt)) : Nat → Int32 → Int32 → Option (Int32 × aSt)
  | 0, _, _ => none
  | fu + 1, l125_2, l125_5 =>
    if (6 : Int32) ≤ l125_5 then (K161 l125_2) else
    (F_X7_manyThere n x87S a0 a1 l125_5 l94_4).bind fun r139 =>
    (F_X7_manyHere n x87S a0 l125_5 l94_4).bind fun r147 =>
    (F_X7_lesser n x87S r139 r147).bind fun r150 =>
    nm (l125_2 + r150) fun v154 =>
    F_X7_beside_L125 n a0 a1 x87S l94_4 K161 fu v154 (l125_5 + (1 : Int32))
def F_X7_beside_L94 (n : Nat) (a0 : Nat) (a1 : Int32) (x87S : aSt) (K167 : Int32 → Int32 → Option (Int32 × aSt)) : Nat → Int32 → Int32 → Int32 → Option (Int32 × aSt)
  | 0, _, _, _ => none
  | fu + 1, l94_2, l94_3, l94_4 =>
    if (10 : Int32) ≤ l94_4 then (K167 l94_2 l94_3) else
    (F_X7_manyThere n x87S a0 a1 (-1 : Int32) l94_4).bind fun r107 =>
    (F_X7_manyHere n x87S a0 (-1 : Int32) l94_4).bind fun r114 =>
    (F_X7_lesser n x87S r107 r114).bind fun r117 =>
    nm (l94_3 + r117) fun v121 =>
    jn (fun (x161_2 : Int32) => (F_X7_beside_L94 n a0 a1 x87S K167 fu x161_2 v121 (l94_4 + (1 : Int32)) : Option (Int32 × aSt))) fun K161 =>
    F_X7_beside_L125 n a0 a1 x87S l94_4 K161 n l94_2 (0 : Int32)
def F_X7_beside_L43 (n : Nat) (a0 : Nat) (a1 : Int32) (K87 : aSt → Option (Int32 × aSt)) : Nat → Int32 → aSt → Option (Int32 × aSt)
  | 0, _, _ => none
  | fu + 1, l43_2, l43S =>
    rfd (l43S.2.2 a0 0) 7 fun k45 =>
    grd (inb a1 (SH k45).2) <|
    if (l43S.1 k45 a1.toNatClampNeg) ≤ l43_2 then (K87 l43S) else
    rfd (l43S.2.2 a0 1) 7 fun k54 =>
    grd (inb (((40 : Int32) * a1) + l43_2) (SH k54).2) <|
    (F_X7_in n l43S (l43S.1 k54 (((40 : Int32) * a1) + l43_2).toNatClampNeg).toInt64 (0 : Int64) (59 : Int64)).bind fun r69 =>
    if r69 = 0 then (bn2 (F_X7_found n l43S a0 (3 : Int32)) fun r77 S77 =>
    some (r77, S77)) else
    F_X7_beside_L43 n a0 a1 K87 fu (l43_2 + (1 : Int32)) l43S
def F_X7_beside (n : Nat) (S : aSt) (a0 : Nat) (a1 : Int32) : Option (Int32 × aSt) :=
(F_X7_isRow n S a1).bind fun r1 =>
if r1 = 0 then (some ((-1 : Int32), S)) else
rfd (S.2.2 a0 0) 7 fun k10 =>
grd (inb a1 (SH k10).2) <|
if 0 ≤ (S.1 k10 a1.toNatClampNeg) then (grd (inb a1 (SH k10).2) <|
if (S.1 k10 a1.toNatClampNeg) ≤ (7 : Int32) then (jn (fun (x87S : aSt) => (jn (fun (x167_2 : Int32) (x167_3 : Int32) => (bn2 (F_X7_tell n x87S a0 (x167_3 - x167_2)) fun r171 S171 =>
some (x167_2, S171) : Option (Int32 × aSt))) fun K167 =>
F_X7_beside_L94 n a0 a1 x87S K167 n (0 : Int32) (0 : Int32) (0 : Int32) : Option (Int32 × aSt))) fun K87 =>
F_X7_beside_L43 n a0 a1 K87 n (0 : Int32) S) else
bn2 (F_X7_found n S a0 (5 : Int32)) fun r37 S37 =>
some (r37, S37)) else
bn2 (F_X7_found n S a0 (1 : Int32)) fun r20 S20 =>
some (r20, S20)
set_option maxHeartbeats 4000000 in
set_option maxRecDepth 100000 in
theorem C_X7_beside (G : aG) (l : Launch) (n : Nat) (S : aSt) (a0 : Nat) (a1 : Int32) (r : Int32) (Sr : aSt) (ha0 : isT a0 6 = true) (hf : F_X7_beside n S a0 a1 = some (r, Sr)) : Ctr G l yX7_beside mX7_beside (rmM 3) 97 97 S [.ref a0, .int a1] (some (.int r)) Sr := by
  refine Ctr.of (by decide) rfl rfl (Nat.le_of_ble_eq_true rfl) [(0, .ref a0), (1, .int a1)] rfl ?_
  unfold F_X7_beside at hf
  refine Go.iload_n 1 1 rfl dX7_beside_0 rfl ?_
  obtain ⟨r1, er1, hf⟩ := f_bnd hf
  refine Go.cS 4 [.int a1] [] (C_X7_isRow G l n S a1 r1  er1) rfl dX7_beside_1 cx_X7_72 (by decide) (by decide) rfl (Nat.le_of_ble_eq_true rfl) ?_
  refine Go.if_ne 9 7 rfl dX7_beside_4 rfl (fun hc => ?_) (fun hc => ?_)
  · replace hf := f_el hf hc
    refine Go.aload_n 0 10 rfl dX7_beside_9 rfl ?_
    obtain ⟨k10, qk10, hk10, hf⟩ := f_rfd hf
    refine Go.getR 13 rfl dX7_beside_10 fl_X7_7 rfl (isT_lt ha0) (isT_sh ha0) qk10 ?_
    refine Go.iload_n 1 14 rfl dX7_beside_13 rfl ?_
    obtain ⟨g14, hf⟩ := f_grd hf
    refine Go.iald 15 rfl dX7_beside_14 (isT_lt hk10) (isT_sh hk10) g14 ?_
    refine Go.if_ge 24 18 rfl dX7_beside_15 rfl (fun hc => ?_) (fun hc => ?_)
    · replace hf := f_if hf hc
      refine Go.aload_n 0 25 rfl dX7_beside_24 rfl ?_
      refine Go.getR 28 rfl dX7_beside_25 fl_X7_7 rfl (isT_lt ha0) (isT_sh ha0) qk10 ?_
      refine Go.iload_n 1 29 rfl dX7_beside_28 rfl ?_
      obtain ⟨g29, hf⟩ := f_grd hf
      refine Go.iald 30 rfl dX7_beside_29 (isT_lt hk10) (isT_sh hk10) g29 ?_
      refine Go.bipush (7 : Int32) 32 rfl dX7_beside_30 cb_7 ?_
      refine Go.icmp_le 41 35 rfl dX7_beside_32 rfl (fun hc => ?_) (fun hc => ?_)
      · replace hf := f_if hf hc
        refine Go.iconst (0 : Int32) 42 rfl dX7_beside_41 ci_0 ?_
        refine Go.istore_n 43 [(2, .int (0 : Int32)), (0, .ref a0), (1, .int a1)] rfl dX7_beside_42 (by decide) rfl ?_
        obtain ⟨K87, eK87, hf⟩ := f_jn hf
        have J87 : ∀ (x87S : aSt), K87 x87S = some (r, Sr) → GoM G l 3 (TmR G (some (.int r)) 97 Sr 0 0) mX7_beside 87 [(0, .ref a0), (1, .int a1)] [] x87S := by
          intro x87S hf
          rw [eK87] at hf
          refine Go.iconst (0 : Int32) 88 rfl dX7_beside_87 ci_0 ?_
          refine Go.istore_n 89 [(2, .int (0 : Int32)), (0, .ref a0), (1, .int a1)] rfl dX7_beside_88 (by decide) rfl ?_
          refine Go.iconst (0 : Int32) 90 rfl dX7_beside_89 ci_0 ?_
          refine Go.istore_n 91 [(3, .int (0 : Int32)), (2, .int (0 : Int32)), (0, .ref a0), (1, .int a1)] rfl dX7_beside_90 (by decide) rfl ?_
          refine Go.iconst (0 : Int32) 92 rfl dX7_beside_91 ci_0 ?_
          refine Go.istore 94 [(4, .int (0 : Int32)), (3, .int (0 : Int32)), (2, .int (0 : Int32)), (0, .ref a0), (1, .int a1)] rfl dX7_beside_92 (by decide) rfl ?_
          obtain ⟨K167, eK167, hf⟩ := f_jn hf
          have J167 : ∀ (x167_2 : Int32) (x167_3 : Int32), K167 x167_2 x167_3 = some (r, Sr) → GoM G l 3 (TmR G (some (.int r)) 97 Sr 0 0) mX7_beside 167 [(0, .ref a0), (2, .int x167_2), (3, .int x167_3)] [] x87S := by
            intro x167_2 x167_3 hf
            rw [eK167] at hf
            refine Go.aload_n 0 168 rfl dX7_beside_167 rfl ?_
            refine Go.iload_n 2 169 rfl dX7_beside_168 rfl ?_
            refine Go.iload_n 1 170 rfl dX7_beside_169 rfl ?_
            refine Go.isub 171 rfl dX7_beside_170 ?_
            obtain ⟨r171, S171, er171, hf⟩ := f_bn2 hf
            refine Go.cV 174 [.int (x167_3 - x167_2)] [] (C_X7_tell G l n x87S a0 (x167_3 - x167_2) r171 S171 ha0 er171) rfl dX7_beside_171 cv_X7_80 ha0 (by decide) (by decide) rfl (Nat.le_of_ble_eq_true rfl) ?_
            refine Go.istore 176 [(4, .int r171), (0, .ref a0), (2, .int x167_2), (3, .int x167_3)] rfl dX7_beside_174 (by decide) rfl ?_
            refine Go.iload_n 2 177 rfl dX7_beside_176 rfl ?_
            exact Go.irS rfl dX7_beside_177 hf
          clear eK167
          have L94 : ∀ (fu : Nat) (l94_2 : Int32) (l94_3 : Int32) (l94_4 : Int32), F_X7_beside_L94 n a0 a1 x87S K167 fu l94_2 l94_3 l94_4 = some (r, Sr) → GoM G l 3 (TmR G (some (.int r)) 97 Sr 0 0) mX7_beside 94 [(0, .ref a0), (1, .int a1), (2, .int l94_2), (3, .int l94_3), (4, .int l94_4)] [] x87S := by
            intro fu
            induction fu with
            | zero => intro l94_2 l94_3 l94_4 hf; rw [F_X7_beside_L94] at hf; cases hf
            | succ fu ih =>
              intro l94_2 l94_3 l94_4 hf
              rw [F_X7_beside_L94] at hf
              refine Go.iload 4 96 rfl dX7_beside_94 rfl ?_
              refine Go.bipush (10 : Int32) 98 rfl dX7_beside_96 cb_10 ?_
              refine Go.icmp_ge 167 101 rfl dX7_beside_98 rfl (fun hc => ?_) (fun hc => ?_)
              · replace hf := f_if hf hc
                exact Go.sub [0, 2, 3] [(0, .ref a0), (2, .int l94_2), (3, .int l94_3)] rfl (J167 l94_2 l94_3 hf)
              · replace hf := f_el hf hc
                refine Go.iload_n 3 102 rfl dX7_beside_101 rfl ?_
                refine Go.aload_n 0 103 rfl dX7_beside_102 rfl ?_
                refine Go.iload_n 1 104 rfl dX7_beside_103 rfl ?_
                refine Go.iconst (-1 : Int32) 105 rfl dX7_beside_104 ci_m1 ?_
                refine Go.iload 4 107 rfl dX7_beside_105 rfl ?_
                obtain ⟨r107, er107, hf⟩ := f_bnd hf
                refine Go.cV 110 [.int a1, .int (-1 : Int32), .int l94_4] [.int l94_3] (C_X7_manyThere G l n x87S a0 a1 (-1 : Int32) l94_4 r107 ha0 er107) rfl dX7_beside_107 cv_X7_201 ha0 (by decide) (by decide) rfl (Nat.le_of_ble_eq_true rfl) ?_
                refine Go.aload_n 0 111 rfl dX7_beside_110 rfl ?_
                refine Go.iconst (-1 : Int32) 112 rfl dX7_beside_111 ci_m1 ?_
                refine Go.iload 4 114 rfl dX7_beside_112 rfl ?_
                obtain ⟨r114, er114, hf⟩ := f_bnd hf
                refine Go.cV 117 [.int (-1 : Int32), .int l94_4] [.int r107, .int l94_3] (C_X7_manyHere G l n x87S a0 (-1 : Int32) l94_4 r114 ha0 er114) rfl dX7_beside_114 cv_X7_204 ha0 (by decide) (by decide) rfl (Nat.le_of_ble_eq_true rfl) ?_
                obtain ⟨r117, er117, hf⟩ := f_bnd hf
                refine Go.cS 120 [.int r107, .int r114] [.int l94_3] (C_X7_lesser G l n x87S r107 r114 r117  er117) rfl dX7_beside_117 cx_X7_207 (by decide) (by decide) rfl (Nat.le_of_ble_eq_true rfl) ?_
                refine Go.iadd 121 rfl dX7_beside_120 ?_
                obtain ⟨v121, ev121, hf⟩ := f_nm hf
                refine Go.topi v121 ev121 ?_
                refine Go.istore_n 122 [(3, .int v121), (0, .ref a0), (1, .int a1), (2, .int l94_2), (4, .int l94_4)] rfl dX7_beside_121 (by decide) rfl ?_
                refine Go.iconst (0 : Int32) 123 rfl dX7_beside_122 ci_0 ?_
                refine Go.istore 125 [(5, .int (0 : Int32)), (3, .int v121), (0, .ref a0), (1, .int a1), (2, .int l94_2), (4, .int l94_4)] rfl dX7_beside_123 (by decide) rfl ?_
                obtain ⟨K161, eK161, hf⟩ := f_jn hf
                have J161 : ∀ (x161_2 : Int32), K161 x161_2 = some (r, Sr) → GoM G l 3 (TmR G (some (.int r)) 97 Sr 0 0) mX7_beside 161 [(0, .ref a0), (1, .int a1), (2, .int x161_2), (3, .int v121), (4, .int l94_4)] [] x87S := by
                  intro x161_2 hf
                  rw [eK161] at hf
                  refine Go.inc 4 164 (1 : Int32) [(4, .int (l94_4 + (1 : Int32))), (0, .ref a0), (1, .int a1), (2, .int x161_2), (3, .int v121)] rfl dX7_beside_161 rfl ci_1 (by decide) rfl ?_
                  refine Go.goto 94 dX7_beside_164 rfl ?_
                  exact Go.sub [1, 2, 3, 4, 0] [(0, .ref a0), (1, .int a1), (2, .int x161_2), (3, .int v121), (4, .int (l94_4 + (1 : Int32)))] rfl (ih x161_2 v121 (l94_4 + (1 : Int32)) hf)
                clear eK161
                have L125 : ∀ (fu : Nat) (l125_2 : Int32) (l125_5 : Int32), F_X7_beside_L125 n a0 a1 x87S l94_4 K161 fu l125_2 l125_5 = some (r, Sr) → GoM G l 3 (TmR G (some (.int r)) 97 Sr 0 0) mX7_beside 125 [(0, .ref a0), (1, .int a1), (2, .int l125_2), (3, .int v121), (4, .int l94_4), (5, .int l125_5)] [] x87S := by
                  intro fu
                  induction fu with
                  | zero => intro l125_2 l125_5 hf; rw [F_X7_beside_L125] at hf; cases hf
                  | succ fu ih =>
                    intro l125_2 l125_5 hf
                    rw [F_X7_beside_L125] at hf
                    refine Go.iload 5 127 rfl dX7_beside_125 rfl ?_
                    refine Go.bipush (6 : Int32) 129 rfl dX7_beside_127 cb_6 ?_
                    refine Go.icmp_ge 161 132 rfl dX7_beside_129 rfl (fun hc => ?_) (fun hc => ?_)
                    · replace hf := f_if hf hc
                      exact Go.sub [0, 1, 2, 3, 4] [(0, .ref a0), (1, .int a1), (2, .int l125_2), (3, .int v121), (4, .int l94_4)] rfl (J161 l125_2 hf)
                    · replace hf := f_el hf hc
                      refine Go.iload_n 2 133 rfl dX7_beside_132 rfl ?_
                      refine Go.aload_n 0 134 rfl dX7_beside_133 rfl ?_
                      refine Go.iload_n 1 135 rfl dX7_beside_134 rfl ?_
                      refine Go.iload 5 137 rfl dX7_beside_135 rfl ?_
                      refine Go.iload 4 139 rfl dX7_beside_137 rfl ?_
                      obtain ⟨r139, er139, hf⟩ := f_bnd hf
                      refine Go.cV 142 [.int a1, .int l125_5, .int l94_4] [.int l125_2] (C_X7_manyThere G l n x87S a0 a1 l125_5 l94_4 r139 ha0 er139) rfl dX7_beside_139 cv_X7_201 ha0 (by decide) (by decide) rfl (Nat.le_of_ble_eq_true rfl) ?_
                      refine Go.aload_n 0 143 rfl dX7_beside_142 rfl ?_
                      refine Go.iload 5 145 rfl dX7_beside_143 rfl ?_
                      refine Go.iload 4 147 rfl dX7_beside_145 rfl ?_
                      obtain ⟨r147, er147, hf⟩ := f_bnd hf
                      refine Go.cV 150 [.int l125_5, .int l94_4] [.int r139, .int l125_2] (C_X7_manyHere G l n x87S a0 l125_5 l94_4 r147 ha0 er147) rfl dX7_beside_147 cv_X7_204 ha0 (by decide) (by decide) rfl (Nat.le_of_ble_eq_true rfl) ?_
                      obtain ⟨r150, er150, hf⟩ := f_bnd hf
                      refine Go.cS 153 [.int r139, .int r147] [.int l125_2] (C_X7_lesser G l n x87S r139 r147 r150  er150) rfl dX7_beside_150 cx_X7_207 (by decide) (by decide) rfl (Nat.le_of_ble_eq_true rfl) ?_
                      refine Go.iadd 154 rfl dX7_beside_153 ?_
                      obtain ⟨v154, ev154, hf⟩ := f_nm hf
                      refine Go.topi v154 ev154 ?_
                      refine Go.istore_n 155 [(2, .int v154), (0, .ref a0), (1, .int a1), (3, .int v121), (4, .int l94_4), (5, .int l125_5)] rfl dX7_beside_154 (by decide) rfl ?_
                      refine Go.inc 5 158 (1 : Int32) [(5, .int (l125_5 + (1 : Int32))), (2, .int v154), (0, .ref a0), (1, .int a1), (3, .int v121), (4, .int l94_4)] rfl dX7_beside_155 rfl ci_1 (by decide) rfl ?_
                      refine Go.goto 125 dX7_beside_158 rfl ?_
                      exact Go.sub [2, 3, 1, 4, 5, 0] [(0, .ref a0), (1, .int a1), (2, .int v154), (3, .int v121), (4, .int l94_4), (5, .int (l125_5 + (1 : Int32)))] rfl (ih v154 (l125_5 + (1 : Int32)) hf)
                exact Go.sub [2, 3, 4, 1, 5, 0] [(0, .ref a0), (1, .int a1), (2, .int l94_2), (3, .int v121), (4, .int l94_4), (5, .int (0 : Int32))] rfl (L125 n l94_2 (0 : Int32) hf)
          exact Go.sub [3, 4, 2, 1, 0] [(0, .ref a0), (1, .int a1), (2, .int (0 : Int32)), (3, .int (0 : Int32)), (4, .int (0 : Int32))] rfl (L94 n (0 : Int32) (0 : Int32) (0 : Int32) hf)
        clear eK87
        have L43 : ∀ (fu : Nat) (l43_2 : Int32) (l43S : aSt), F_X7_beside_L43 n a0 a1 K87 fu l43_2 l43S = some (r, Sr) → GoM G l 3 (TmR G (some (.int r)) 97 Sr 0 0) mX7_beside 43 [(0, .ref a0), (1, .int a1), (2, .int l43_2)] [] l43S := by
          intro fu
          induction fu with
          | zero => intro l43_2 l43S hf; rw [F_X7_beside_L43] at hf; cases hf
          | succ fu ih =>
            intro l43_2 l43S hf
            rw [F_X7_beside_L43] at hf
            refine Go.iload_n 2 44 rfl dX7_beside_43 rfl ?_
            refine Go.aload_n 0 45 rfl dX7_beside_44 rfl ?_
            obtain ⟨k45, qk45, hk45, hf⟩ := f_rfd hf
            refine Go.getR 48 rfl dX7_beside_45 fl_X7_7 rfl (isT_lt ha0) (isT_sh ha0) qk45 ?_
            refine Go.iload_n 1 49 rfl dX7_beside_48 rfl ?_
            obtain ⟨g49, hf⟩ := f_grd hf
            refine Go.iald 50 rfl dX7_beside_49 (isT_lt hk45) (isT_sh hk45) g49 ?_
            refine Go.icmp_ge 87 53 rfl dX7_beside_50 rfl (fun hc => ?_) (fun hc => ?_)
            · replace hf := f_if hf hc
              exact Go.sub [0, 1] [(0, .ref a0), (1, .int a1)] rfl (J87 l43S hf)
            · replace hf := f_el hf hc
              refine Go.aload_n 0 54 rfl dX7_beside_53 rfl ?_
              obtain ⟨k54, qk54, hk54, hf⟩ := f_rfd hf
              refine Go.getR 57 rfl dX7_beside_54 fl_X7_13 rfl (isT_lt ha0) (isT_sh ha0) qk54 ?_
              refine Go.bipush (40 : Int32) 59 rfl dX7_beside_57 cb_40 ?_
              refine Go.iload_n 1 60 rfl dX7_beside_59 rfl ?_
              refine Go.imul 61 rfl dX7_beside_60 ?_
              refine Go.iload_n 2 62 rfl dX7_beside_61 rfl ?_
              refine Go.iadd 63 rfl dX7_beside_62 ?_
              obtain ⟨g63, hf⟩ := f_grd hf
              refine Go.iald 64 rfl dX7_beside_63 (isT_lt hk54) (isT_sh hk54) g63 ?_
              refine Go.i2l 65 rfl dX7_beside_64 ?_
              refine Go.lconst (0 : Int64) 66 rfl dX7_beside_65 cl_0 ?_
              refine Go.ldc2 (59 : Int64) 69 rfl dX7_beside_66 (am_mem 962 (by decide +kernel) rfl) ?_
              obtain ⟨r69, er69, hf⟩ := f_bnd hf
              refine Go.cS 72 [.long (l43S.1 k54 (((40 : Int32) * a1) + l43_2).toNatClampNeg).toInt64, .long (0 : Int64), .long (59 : Int64)] [] (C_X7_in G l n l43S (l43S.1 k54 (((40 : Int32) * a1) + l43_2).toNatClampNeg).toInt64 (0 : Int64) (59 : Int64) r69  er69) rfl dX7_beside_69 cx_X7_66 (by decide) (by decide) rfl (Nat.le_of_ble_eq_true rfl) ?_
              refine Go.if_ne 81 75 rfl dX7_beside_72 rfl (fun hc => ?_) (fun hc => ?_)
              · replace hf := f_el hf hc
                refine Go.inc 2 84 (1 : Int32) [(2, .int (l43_2 + (1 : Int32))), (0, .ref a0), (1, .int a1)] rfl dX7_beside_81 rfl ci_1 (by decide) rfl ?_
                refine Go.goto 43 dX7_beside_84 rfl ?_
                exact Go.sub [1, 2, 0] [(0, .ref a0), (1, .int a1), (2, .int (l43_2 + (1 : Int32)))] rfl (ih (l43_2 + (1 : Int32)) l43S hf)
              · replace hf := f_if hf hc
                refine Go.aload_n 0 76 rfl dX7_beside_75 rfl ?_
                refine Go.iconst (3 : Int32) 77 rfl dX7_beside_76 ci_3 ?_
                obtain ⟨r77, S77, er77, hf⟩ := f_bn2 hf
                refine Go.cV 80 [.int (3 : Int32)] [] (C_X7_found G l n l43S a0 (3 : Int32) r77 S77 ha0 er77) rfl dX7_beside_77 cv_X7_76 ha0 (by decide) (by decide) rfl (Nat.le_of_ble_eq_true rfl) ?_
                exact Go.irS rfl dX7_beside_80 hf
        exact Go.sub [1, 2, 0] [(0, .ref a0), (1, .int a1), (2, .int (0 : Int32))] rfl (L43 n (0 : Int32) S hf)
      · replace hf := f_el hf hc
        refine Go.aload_n 0 36 rfl dX7_beside_35 rfl ?_
        refine Go.iconst (5 : Int32) 37 rfl dX7_beside_36 ci_5 ?_
        obtain ⟨r37, S37, er37, hf⟩ := f_bn2 hf
        refine Go.cV 40 [.int (5 : Int32)] [] (C_X7_found G l n S a0 (5 : Int32) r37 S37 ha0 er37) rfl dX7_beside_37 cv_X7_76 ha0 (by decide) (by decide) rfl (Nat.le_of_ble_eq_true rfl) ?_
        exact Go.irS rfl dX7_beside_40 hf
    · replace hf := f_el hf hc
      refine Go.aload_n 0 19 rfl dX7_beside_18 rfl ?_
      refine Go.iconst (1 : Int32) 20 rfl dX7_beside_19 ci_1 ?_
      obtain ⟨r20, S20, er20, hf⟩ := f_bn2 hf
      refine Go.cV 23 [.int (1 : Int32)] [] (C_X7_found G l n S a0 (1 : Int32) r20 S20 ha0 er20) rfl dX7_beside_20 cv_X7_76 ha0 (by decide) (by decide) rfl (Nat.le_of_ble_eq_true rfl) ?_
      exact Go.irS rfl dX7_beside_23 hf
  · replace hf := f_if hf hc
    refine Go.iconst (-1 : Int32) 8 rfl dX7_beside_7 ci_m1 ?_
    exact Go.irS rfl dX7_beside_8 hf
theorem dX7_lying_0 : decode cX7_lying 0 = .ok (.iconst 0, 1) := by decide +kernel
theorem dX7_lying_1 : decode cX7_lying 1 = .ok (.istore_n 3, 1) := by decide +kernel
theorem dX7_lying_2 : decode cX7_lying 2 = .ok (.iconst 0, 1) := by decide +kernel
theorem dX7_lying_3 : decode cX7_lying 3 = .ok (.istore 4, 2) := by decide +kernel
theorem dX7_lying_5 : decode cX7_lying 5 = .ok (.iload 4, 2) := by decide +kernel
theorem dX7_lying_7 : decode cX7_lying 7 = .ok (.aload_n 0, 1) := by decide +kernel
theorem dX7_lying_8 : decode cX7_lying 8 = .ok (.getfield 22, 3) := by decide +kernel
theorem dX7_lying_11 : decode cX7_lying 11 = .ok (.iconst 0, 1) := by decide +kernel
theorem dX7_lying_12 : decode cX7_lying 12 = .ok (.iaload, 1) := by decide +kernel
theorem dX7_lying_13 : decode cX7_lying 13 = .ok (.if_icmp .ge 44, 3) := by decide +kernel
theorem dX7_lying_16 : decode cX7_lying 16 = .ok (.iload_n 3, 1) := by decide +kernel
theorem dX7_lying_17 : decode cX7_lying 17 = .ok (.aload_n 0, 1) := by decide +kernel
theorem dX7_lying_18 : decode cX7_lying 18 = .ok (.getfield 22, 3) := by decide +kernel
theorem dX7_lying_21 : decode cX7_lying 21 = .ok (.iconst 3, 1) := by decide +kernel
theorem dX7_lying_22 : decode cX7_lying 22 = .ok (.iload 4, 2) := by decide +kernel
theorem dX7_lying_24 : decode cX7_lying 24 = .ok (.iadd, 1) := by decide +kernel
theorem dX7_lying_25 : decode cX7_lying 25 = .ok (.iaload, 1) := by decide +kernel
theorem dX7_lying_26 : decode cX7_lying 26 = .ok (.iload_n 1, 1) := by decide +kernel
theorem dX7_lying_27 : decode cX7_lying 27 = .ok (.if_icmp .ne 21, 3) := by decide +kernel
theorem dX7_lying_30 : decode cX7_lying 30 = .ok (.aload_n 0, 1) := by decide +kernel
theorem dX7_lying_31 : decode cX7_lying 31 = .ok (.getfield 22, 3) := by decide +kernel
theorem dX7_lying_34 : decode cX7_lying 34 = .ok (.bipush 17, 2) := by decide +kernel
theorem dX7_lying_36 : decode cX7_lying 36 = .ok (.iload 4, 2) := by decide +kernel
theorem dX7_lying_38 : decode cX7_lying 38 = .ok (.iadd, 1) := by decide +kernel
theorem dX7_lying_39 : decode cX7_lying 39 = .ok (.iaload, 1) := by decide +kernel
theorem dX7_lying_40 : decode cX7_lying 40 = .ok (.iload_n 2, 1) := by decide +kernel
theorem dX7_lying_41 : decode cX7_lying 41 = .ok (.if_icmp .ne 7, 3) := by decide +kernel
theorem dX7_lying_44 : decode cX7_lying 44 = .ok (.iconst 1, 1) := by decide +kernel
theorem dX7_lying_45 : decode cX7_lying 45 = .ok (.goto 4, 3) := by decide +kernel
theorem dX7_lying_48 : decode cX7_lying 48 = .ok (.iconst 0, 1) := by decide +kernel
theorem dX7_lying_49 : decode cX7_lying 49 = .ok (.iadd, 1) := by decide +kernel
theorem dX7_lying_50 : decode cX7_lying 50 = .ok (.istore_n 3, 1) := by decide +kernel
theorem dX7_lying_51 : decode cX7_lying 51 = .ok (.iinc 4 1, 3) := by decide +kernel
theorem dX7_lying_54 : decode cX7_lying 54 = .ok (.goto (-49), 3) := by decide +kernel
theorem dX7_lying_57 : decode cX7_lying 57 = .ok (.iload_n 3, 1) := by decide +kernel
theorem dX7_lying_58 : decode cX7_lying 58 = .ok (.ireturn, 1) := by decide +kernel
def F_X7_lying_L5 (S : aSt) (a0 : Nat) (a1 : Int32) (a2 : Int32) (K57 : Int32 → Option Int32) : Nat → Int32 → Int32 → Option Int32
  | 0, _, _ => none
  | fu + 1, l5_3, l5_4 =>
    rfd (S.2.2 a0 4) 7 fun k8 =>
    grd (inb (0 : Int32) (SH k8).2) <|
    if (S.1 k8 (0 : Int32).toNatClampNeg) ≤ l5_4 then (K57 l5_3) else
    grd (inb ((3 : Int32) + l5_4) (SH k8).2) <|
    jn (fun (j49s1 : Int32) => (nm (l5_3 + j49s1) fun v50 =>
    F_X7_lying_L5 S a0 a1 a2 K57 fu v50 (l5_4 + (1 : Int32)) : Option Int32)) fun K49 =>
    jn ((K49 (0 : Int32) : Option Int32)) fun K48 =>
    if (S.1 k8 ((3 : Int32) + l5_4).toNatClampNeg) = a1 then (grd (inb ((17 : Int32) + l5_4) (SH k8).2) <|
    if (S.1 k8 ((17 : Int32) + l5_4).toNatClampNeg) = a2 then (K49 (1 : Int32)) else
    K48) else
    K48
def F_X7_lying (n : Nat) (S : aSt) (a0 : Nat) (a1 : Int32) (a2 : Int32) : Option Int32 :=
jn (fun (x57_3 : Int32) => (some x57_3 : Option Int32)) fun K57 =>
F_X7_lying_L5 S a0 a1 a2 K57 n (0 : Int32) (0 : Int32)
set_option maxHeartbeats 4000000 in
set_option maxRecDepth 100000 in
theorem C_X7_lying (G : aG) (l : Launch) (n : Nat) (S : aSt) (a0 : Nat) (a1 : Int32) (a2 : Int32) (r : Int32) (ha0 : isT a0 6 = true) (hf : F_X7_lying n S a0 a1 a2 = some r) : Ctr G l yX7_lying mX7_lying (rmM 1) 97 97 S [.ref a0, .int a1, .int a2] (some (.int r)) S := by
  refine Ctr.of (by decide) rfl rfl (Nat.le_of_ble_eq_true rfl) [(0, .ref a0), (1, .int a1), (2, .int a2)] rfl ?_
  unfold F_X7_lying at hf
  refine Go.iconst (0 : Int32) 1 rfl dX7_lying_0 ci_0 ?_
  refine Go.istore_n 2 [(3, .int (0 : Int32)), (0, .ref a0), (1, .int a1), (2, .int a2)] rfl dX7_lying_1 (by decide) rfl ?_
  refine Go.iconst (0 : Int32) 3 rfl dX7_lying_2 ci_0 ?_
  refine Go.istore 5 [(4, .int (0 : Int32)), (3, .int (0 : Int32)), (0, .ref a0), (1, .int a1), (2, .int a2)] rfl dX7_lying_3 (by decide) rfl ?_
  obtain ⟨K57, eK57, hf⟩ := f_jn hf
  have J57 : ∀ (x57_3 : Int32), K57 x57_3 = some r → GoM G l 1 (TmR G (some (.int r)) 97 S 0 0) mX7_lying 57 [(3, .int x57_3)] [] S := by
    intro x57_3 hf
    rw [eK57] at hf
    refine Go.iload_n 0 58 rfl dX7_lying_57 rfl ?_
    exact Go.ir rfl dX7_lying_58 hf
  clear eK57
  have L5 : ∀ (fu : Nat) (l5_3 : Int32) (l5_4 : Int32), F_X7_lying_L5 S a0 a1 a2 K57 fu l5_3 l5_4 = some r → GoM G l 1 (TmR G (some (.int r)) 97 S 0 0) mX7_lying 5 [(0, .ref a0), (1, .int a1), (2, .int a2), (3, .int l5_3), (4, .int l5_4)] [] S := by
    intro fu
    induction fu with
    | zero => intro l5_3 l5_4 hf; rw [F_X7_lying_L5] at hf; cases hf
    | succ fu ih =>
      intro l5_3 l5_4 hf
      rw [F_X7_lying_L5] at hf
      refine Go.iload 4 7 rfl dX7_lying_5 rfl ?_
      refine Go.aload_n 0 8 rfl dX7_lying_7 rfl ?_
      obtain ⟨k8, qk8, hk8, hf⟩ := f_rfd hf
      refine Go.getR 11 rfl dX7_lying_8 fl_X7_22 rfl (isT_lt ha0) (isT_sh ha0) qk8 ?_
      refine Go.iconst (0 : Int32) 12 rfl dX7_lying_11 ci_0 ?_
      obtain ⟨g12, hf⟩ := f_grd hf
      refine Go.iald 13 rfl dX7_lying_12 (isT_lt hk8) (isT_sh hk8) g12 ?_
      refine Go.icmp_ge 57 16 rfl dX7_lying_13 rfl (fun hc => ?_) (fun hc => ?_)
      · replace hf := f_if hf hc
        exact Go.sub [3] [(3, .int l5_3)] rfl (J57 l5_3 hf)
      · replace hf := f_el hf hc
        refine Go.iload_n 3 17 rfl dX7_lying_16 rfl ?_
        refine Go.aload_n 0 18 rfl dX7_lying_17 rfl ?_
        refine Go.getR 21 rfl dX7_lying_18 fl_X7_22 rfl (isT_lt ha0) (isT_sh ha0) qk8 ?_
        refine Go.iconst (3 : Int32) 22 rfl dX7_lying_21 ci_3 ?_
        refine Go.iload 4 24 rfl dX7_lying_22 rfl ?_
        refine Go.iadd 25 rfl dX7_lying_24 ?_
        obtain ⟨g25, hf⟩ := f_grd hf
        refine Go.iald 26 rfl dX7_lying_25 (isT_lt hk8) (isT_sh hk8) g25 ?_
        refine Go.iload_n 1 27 rfl dX7_lying_26 rfl ?_
        obtain ⟨K49, eK49, hf⟩ := f_jn hf
        have J49 : ∀ (j49s1 : Int32), K49 j49s1 = some r → GoM G l 1 (TmR G (some (.int r)) 97 S 0 0) mX7_lying 49 [(0, .ref a0), (1, .int a1), (2, .int a2), (4, .int l5_4)] [.int j49s1, .int l5_3] S := by
          intro j49s1 hf
          rw [eK49] at hf
          refine Go.iadd 50 rfl dX7_lying_49 ?_
          obtain ⟨v50, ev50, hf⟩ := f_nm hf
          refine Go.topi v50 ev50 ?_
          refine Go.istore_n 51 [(3, .int v50), (0, .ref a0), (1, .int a1), (2, .int a2), (4, .int l5_4)] rfl dX7_lying_50 (by decide) rfl ?_
          refine Go.inc 4 54 (1 : Int32) [(4, .int (l5_4 + (1 : Int32))), (3, .int v50), (0, .ref a0), (1, .int a1), (2, .int a2)] rfl dX7_lying_51 rfl ci_1 (by decide) rfl ?_
          refine Go.goto 5 dX7_lying_54 rfl ?_
          exact Go.sub [2, 3, 4, 1, 0] [(0, .ref a0), (1, .int a1), (2, .int a2), (3, .int v50), (4, .int (l5_4 + (1 : Int32)))] rfl (ih v50 (l5_4 + (1 : Int32)) hf)
        clear eK49
        obtain ⟨K48, eK48, hf⟩ := f_jn hf
        have J48 : K48 = some r → GoM G l 1 (TmR G (some (.int r)) 97 S 0 0) mX7_lying 48 [(0, .ref a0), (1, .int a1), (2, .int a2), (4, .int l5_4)] [.int l5_3] S := by
          intro hf
          rw [eK48] at hf
          refine Go.iconst (0 : Int32) 49 rfl dX7_lying_48 ci_0 ?_
          exact J49 (0 : Int32) hf
        clear eK48
        refine Go.icmp_ne 48 30 rfl dX7_lying_27 rfl (fun hc => ?_) (fun hc => ?_)
        · replace hf := f_el hf hc
          exact Go.sub [0, 1, 2, 4] [(0, .ref a0), (1, .int a1), (2, .int a2), (4, .int l5_4)] rfl (J48 hf)
        · replace hf := f_if hf hc
          refine Go.aload_n 0 31 rfl dX7_lying_30 rfl ?_
          refine Go.getR 34 rfl dX7_lying_31 fl_X7_22 rfl (isT_lt ha0) (isT_sh ha0) qk8 ?_
          refine Go.bipush (17 : Int32) 36 rfl dX7_lying_34 cb_17 ?_
          refine Go.iload 4 38 rfl dX7_lying_36 rfl ?_
          refine Go.iadd 39 rfl dX7_lying_38 ?_
          obtain ⟨g39, hf⟩ := f_grd hf
          refine Go.iald 40 rfl dX7_lying_39 (isT_lt hk8) (isT_sh hk8) g39 ?_
          refine Go.iload_n 2 41 rfl dX7_lying_40 rfl ?_
          refine Go.icmp_ne 48 44 rfl dX7_lying_41 rfl (fun hc => ?_) (fun hc => ?_)
          · replace hf := f_el hf hc
            exact Go.sub [0, 1, 2, 4] [(0, .ref a0), (1, .int a1), (2, .int a2), (4, .int l5_4)] rfl (J48 hf)
          · replace hf := f_if hf hc
            refine Go.iconst (1 : Int32) 45 rfl dX7_lying_44 ci_1 ?_
            refine Go.goto 49 dX7_lying_45 rfl ?_
            exact Go.sub [0, 1, 2, 4] [(0, .ref a0), (1, .int a1), (2, .int a2), (4, .int l5_4)] rfl (J49 (1 : Int32) hf)
  exact Go.sub [2, 3, 4, 1, 0] [(0, .ref a0), (1, .int a1), (2, .int a2), (3, .int (0 : Int32)), (4, .int (0 : Int32))] rfl (L5 n (0 : Int32) (0 : Int32) hf)
