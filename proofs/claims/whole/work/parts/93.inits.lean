/-! the two large constructors (written by program). -/
theorem rowI_r {S : aSt} {k a : Nat} (h : a ≠ k) : (rowI S k).2.2 a = S.2.2 a := by
  unfold rowI
  simp only [stI_22, stR_ne h]
theorem rowI_rs {S : aSt} {k : Nat} : (rowI S k).2.2 k = va_up (S.2.2 k) 0 (some (k + 1)) := by
  unfold rowI
  simp only [stI_22, stR_self]
theorem rowI_i {S : aSt} {k a : Nat} (h : a ≠ k) : (rowI S k).1 a = S.1 a := by
  unfold rowI
  simp only [stR_1, stI_ne h]
theorem rowI_l {S : aSt} {k : Nat} : (rowI S k).2.1 = S.2.1 := rfl
theorem stdI_r {S : aSt} {k a : Nat} (h : a ≠ k) : (stdI S k).2.2 a = S.2.2 a := by
  unfold stdI
  simp only [stI_22, stR_ne h]
theorem stdI_rs {S : aSt} {k : Nat} : (stdI S k).2.2 k = va_up (va_up (va_up (va_up (va_up (va_up (S.2.2 k) 0 (some (k + 1))) 1 (some (k + 2))) 2 (some (k + 3))) 3 (some (k + 4))) 4 (some (k + 5))) 5 (some (k + 6)) := by
  unfold stdI
  simp only [stI_22, stR_self]
theorem stdI_i {S : aSt} {k a : Nat} (h : a ≠ k) : (stdI S k).1 a = S.1 a := by
  unfold stdI
  simp only [stR_1, stI_ne h]
theorem stdI_l {S : aSt} {k : Nat} : (stdI S k).2.1 = S.2.1 := rfl
theorem matI_r {S : aSt} {k a : Nat} (h : a ≠ k) : (matI S k).2.2 a = S.2.2 a := by
  unfold matI
  simp only [stI_22, stR_ne h]
theorem matI_rs {S : aSt} {k : Nat} : (matI S k).2.2 k = va_up (va_up (va_up (S.2.2 k) 0 (some (k + 1))) 1 (some (k + 2))) 2 (some (k + 3)) := by
  unfold matI
  simp only [stI_22, stR_self]
theorem matI_i {S : aSt} {k a : Nat} (h : a ≠ k) : (matI S k).1 a = S.1 a := by
  unfold matI
  simp only [stR_1, stI_ne h]
theorem matI_l {S : aSt} {k : Nat} : (matI S k).2.1 = S.2.1 := rfl
theorem parI_r {S : aSt} {k a : Nat} (h : a ≠ k) : (parI S k).2.2 a = S.2.2 a := by
  unfold parI
  simp only [stI_22, stR_ne h]
theorem parI_rs {S : aSt} {k : Nat} : (parI S k).2.2 k = va_up (va_up (va_up (S.2.2 k) 0 (some (k + 1))) 1 (some (k + 2))) 2 (some (k + 3)) := by
  unfold parI
  simp only [stI_22, stR_self]
theorem parI_i {S : aSt} {k a : Nat} (h : a ≠ k) : (parI S k).1 a = S.1 a := by
  unfold parI
  simp only [stR_1, stI_ne h]
theorem parI_l {S : aSt} {k : Nat} : (parI S k).2.1 = S.2.1 := rfl
theorem rowI_is {S : aSt} {k : Nat} : (rowI S k).1 k 1 = -1 := by
  unfold rowI
  simp only [stR_1, stI_at, if_true]
theorem stdI_is {S : aSt} {k : Nat} : (stdI S k).1 k 6 = -1 := by
  unfold stdI
  simp only [stR_1, stI_at, if_true]
theorem begS_i {S : aSt} {k a : Nat} (h : a ≠ k) (h3 : a ≠ k + 3) (h4 : a ≠ k + 4) : (begS S k).1 a = S.1 a := by
  unfold begS
  rw [stRow_ne h4, stRow_ne h3, stI_ne h]
theorem libI_l {S : aSt} {k : Nat} : (libI S k).2.1 = S.2.1 := rfl
theorem libI_r {S : aSt} {k a : Nat} (h : a ≠ k) (h7 : a ≠ k + 7) : (libI S k).2.2 a = S.2.2 a := by
  unfold libI begS
  simp only [stRow_22, stI_22, stR_ne h, stdI_r h7]
theorem libI_rk {S : aSt} {k : Nat} : (libI S k).2.2 k = va_up (va_up (va_up (va_up (va_up (va_up (va_up (S.2.2 k) 0 (some (k + 1))) 1 (some (k + 2))) 2 (some (k + 3))) 3 (some (k + 4))) 4 (some (k + 5))) 5 (some (k + 6))) 6 (some (k + 7)) := by
  unfold libI begS
  simp only [stRow_22, stI_22, stR_self, stdI_r (show k ≠ k + 7 by omega)]
theorem libI_rs {S : aSt} {k : Nat} : (libI S k).2.2 (k + 7) = va_up (va_up (va_up (va_up (va_up (va_up (S.2.2 (k + 7)) 0 (some (k + 7 + 1))) 1 (some (k + 7 + 2))) 2 (some (k + 7 + 3))) 3 (some (k + 7 + 4))) 4 (some (k + 7 + 5))) 5 (some (k + 7 + 6)) := by
  unfold libI begS
  simp only [stRow_22, stI_22, stR_ne (show k + 7 ≠ k by omega), stdI_rs]
theorem libI_i {S : aSt} {k a : Nat} (h : a ≠ k) (h7 : a ≠ k + 7) (h10 : a ≠ k + 10) (h11 : a ≠ k + 11) : (libI S k).1 a = S.1 a := by
  unfold libI
  rw [begS_i h7 (by omega) (by omega), stI_ne h, stI_ne h, stR_1, stdI_i h7]
  rfl
theorem libI_7 {S : aSt} {k : Nat} : (libI S k).1 k 7 = 0 := by
  unfold libI
  rw [begS_i (by omega) (by omega) (by omega)]
  simp [stI_at]
theorem libI_8 {S : aSt} {k : Nat} : (libI S k).1 k 8 = 0 := by
  unfold libI
  rw [begS_i (by omega) (by omega) (by omega)]
  simp [stI_at]
theorem libI_6 {S : aSt} {k : Nat} : (libI S k).1 (k + 7) 6 = 0 := by
  unfold libI begS
  rw [stRow_ne (by omega), stRow_ne (by omega)]
  simp [stI_at]
theorem libI_9 {S : aSt} {k q : Nat} (hq : q < 7) : (libI S k).1 (k + 11) q = -9 := by
  unfold libI begS
  rw [show k + 11 = k + 7 + 4 by omega, stRow_self]
  unfold fil
  rw [if_pos (by omega)]
theorem dX6_init_0 : decode cX6_init 0 = .ok (.aload_n 0, 1) := by decide +kernel
theorem dX6_init_1 : decode cX6_init 1 = .ok (.invokespecial 3, 3) := by decide +kernel
theorem dX6_init_4 : decode cX6_init 4 = .ok (.aload_n 0, 1) := by decide +kernel
theorem dX6_init_5 : decode cX6_init 5 = .ok (.bipush 6, 2) := by decide +kernel
theorem dX6_init_7 : decode cX6_init 7 = .ok (.anewarray 9, 3) := by decide +kernel
theorem dX6_init_10 : decode cX6_init 10 = .ok (.putfield 11, 3) := by decide +kernel
theorem dX6_init_13 : decode cX6_init 13 = .ok (.aload_n 0, 1) := by decide +kernel
theorem dX6_init_14 : decode cX6_init 14 = .ok (.iconst 4, 1) := by decide +kernel
theorem dX6_init_15 : decode cX6_init 15 = .ok (.anewarray 9, 3) := by decide +kernel
theorem dX6_init_18 : decode cX6_init 18 = .ok (.putfield 15, 3) := by decide +kernel
theorem dX6_init_21 : decode cX6_init 21 = .ok (.aload_n 0, 1) := by decide +kernel
theorem dX6_init_22 : decode cX6_init 22 = .ok (.iconst 3, 1) := by decide +kernel
theorem dX6_init_23 : decode cX6_init 23 = .ok (.anewarray 18, 3) := by decide +kernel
theorem dX6_init_26 : decode cX6_init 26 = .ok (.putfield 20, 3) := by decide +kernel
theorem dX6_init_29 : decode cX6_init 29 = .ok (.aload_n 0, 1) := by decide +kernel
theorem dX6_init_30 : decode cX6_init 30 = .ok (.bipush 6, 2) := by decide +kernel
theorem dX6_init_32 : decode cX6_init 32 = .ok (.newarray .int, 2) := by decide +kernel
theorem dX6_init_34 : decode cX6_init 34 = .ok (.putfield 24, 3) := by decide +kernel
theorem dX6_init_37 : decode cX6_init 37 = .ok (.aload_n 0, 1) := by decide +kernel
theorem dX6_init_38 : decode cX6_init 38 = .ok (.new 28, 3) := by decide +kernel
theorem dX6_init_41 : decode cX6_init 41 = .ok (.dup, 1) := by decide +kernel
theorem dX6_init_42 : decode cX6_init 42 = .ok (.invokespecial 30, 3) := by decide +kernel
theorem dX6_init_45 : decode cX6_init 45 = .ok (.putfield 31, 3) := by decide +kernel
theorem dX6_init_48 : decode cX6_init 48 = .ok (.aload_n 0, 1) := by decide +kernel
theorem dX6_init_49 : decode cX6_init 49 = .ok (.new 35, 3) := by decide +kernel
theorem dX6_init_52 : decode cX6_init 52 = .ok (.dup, 1) := by decide +kernel
theorem dX6_init_53 : decode cX6_init 53 = .ok (.invokespecial 37, 3) := by decide +kernel
theorem dX6_init_56 : decode cX6_init 56 = .ok (.putfield 38, 3) := by decide +kernel
theorem dX6_init_59 : decode cX6_init 59 = .ok (.aload_n 0, 1) := by decide +kernel
theorem dX6_init_60 : decode cX6_init 60 = .ok (.new 42, 3) := by decide +kernel
theorem dX6_init_63 : decode cX6_init 63 = .ok (.dup, 1) := by decide +kernel
theorem dX6_init_64 : decode cX6_init 64 = .ok (.invokespecial 44, 3) := by decide +kernel
theorem dX6_init_67 : decode cX6_init 67 = .ok (.putfield 45, 3) := by decide +kernel
theorem dX6_init_70 : decode cX6_init 70 = .ok (.aload_n 0, 1) := by decide +kernel
theorem dX6_init_71 : decode cX6_init 71 = .ok (.new 42, 3) := by decide +kernel
theorem dX6_init_74 : decode cX6_init 74 = .ok (.dup, 1) := by decide +kernel
theorem dX6_init_75 : decode cX6_init 75 = .ok (.invokespecial 44, 3) := by decide +kernel
theorem dX6_init_78 : decode cX6_init 78 = .ok (.putfield 49, 3) := by decide +kernel
theorem dX6_init_81 : decode cX6_init 81 = .ok (.aload_n 0, 1) := by decide +kernel
theorem dX6_init_82 : decode cX6_init 82 = .ok (.iconst 0, 1) := by decide +kernel
theorem dX6_init_83 : decode cX6_init 83 = .ok (.putfield 52, 3) := by decide +kernel
theorem dX6_init_86 : decode cX6_init 86 = .ok (.aload_n 0, 1) := by decide +kernel
theorem dX6_init_87 : decode cX6_init 87 = .ok (.lconst 0, 1) := by decide +kernel
theorem dX6_init_88 : decode cX6_init 88 = .ok (.putfield 56, 3) := by decide +kernel
theorem dX6_init_91 : decode cX6_init 91 = .ok (.aload_n 0, 1) := by decide +kernel
theorem dX6_init_92 : decode cX6_init 92 = .ok (.lconst 1, 1) := by decide +kernel
theorem dX6_init_93 : decode cX6_init 93 = .ok (.putfield 60, 3) := by decide +kernel
theorem dX6_init_96 : decode cX6_init 96 = .ok (.aload_n 0, 1) := by decide +kernel
theorem dX6_init_97 : decode cX6_init 97 = .ok (.iconst 0, 1) := by decide +kernel
theorem dX6_init_98 : decode cX6_init 98 = .ok (.putfield 63, 3) := by decide +kernel
theorem dX6_init_101 : decode cX6_init 101 = .ok (.iconst 0, 1) := by decide +kernel
theorem dX6_init_102 : decode cX6_init 102 = .ok (.istore_n 1, 1) := by decide +kernel
theorem dX6_init_103 : decode cX6_init 103 = .ok (.iload_n 1, 1) := by decide +kernel
theorem dX6_init_104 : decode cX6_init 104 = .ok (.bipush 6, 2) := by decide +kernel
theorem dX6_init_106 : decode cX6_init 106 = .ok (.if_icmp .ge 24, 3) := by decide +kernel
theorem dX6_init_109 : decode cX6_init 109 = .ok (.aload_n 0, 1) := by decide +kernel
theorem dX6_init_110 : decode cX6_init 110 = .ok (.getfield 11, 3) := by decide +kernel
theorem dX6_init_113 : decode cX6_init 113 = .ok (.iload_n 1, 1) := by decide +kernel
theorem dX6_init_114 : decode cX6_init 114 = .ok (.new 9, 3) := by decide +kernel
theorem dX6_init_117 : decode cX6_init 117 = .ok (.dup, 1) := by decide +kernel
theorem dX6_init_118 : decode cX6_init 118 = .ok (.bipush 40, 2) := by decide +kernel
theorem dX6_init_120 : decode cX6_init 120 = .ok (.invokespecial 66, 3) := by decide +kernel
theorem dX6_init_123 : decode cX6_init 123 = .ok (.aastore, 1) := by decide +kernel
theorem dX6_init_124 : decode cX6_init 124 = .ok (.iinc 1 1, 3) := by decide +kernel
theorem dX6_init_127 : decode cX6_init 127 = .ok (.goto (-24), 3) := by decide +kernel
theorem dX6_init_130 : decode cX6_init 130 = .ok (.iconst 0, 1) := by decide +kernel
theorem dX6_init_131 : decode cX6_init 131 = .ok (.istore_n 1, 1) := by decide +kernel
theorem dX6_init_132 : decode cX6_init 132 = .ok (.iload_n 1, 1) := by decide +kernel
theorem dX6_init_133 : decode cX6_init 133 = .ok (.iconst 4, 1) := by decide +kernel
theorem dX6_init_134 : decode cX6_init 134 = .ok (.if_icmp .ge 24, 3) := by decide +kernel
theorem dX6_init_137 : decode cX6_init 137 = .ok (.aload_n 0, 1) := by decide +kernel
theorem dX6_init_138 : decode cX6_init 138 = .ok (.getfield 15, 3) := by decide +kernel
theorem dX6_init_141 : decode cX6_init 141 = .ok (.iload_n 1, 1) := by decide +kernel
theorem dX6_init_142 : decode cX6_init 142 = .ok (.new 9, 3) := by decide +kernel
theorem dX6_init_145 : decode cX6_init 145 = .ok (.dup, 1) := by decide +kernel
theorem dX6_init_146 : decode cX6_init 146 = .ok (.bipush 80, 2) := by decide +kernel
theorem dX6_init_148 : decode cX6_init 148 = .ok (.invokespecial 66, 3) := by decide +kernel
theorem dX6_init_151 : decode cX6_init 151 = .ok (.aastore, 1) := by decide +kernel
theorem dX6_init_152 : decode cX6_init 152 = .ok (.iinc 1 1, 3) := by decide +kernel
theorem dX6_init_155 : decode cX6_init 155 = .ok (.goto (-23), 3) := by decide +kernel
theorem dX6_init_158 : decode cX6_init 158 = .ok (.iconst 0, 1) := by decide +kernel
theorem dX6_init_159 : decode cX6_init 159 = .ok (.istore_n 1, 1) := by decide +kernel
theorem dX6_init_160 : decode cX6_init 160 = .ok (.iload_n 1, 1) := by decide +kernel
theorem dX6_init_161 : decode cX6_init 161 = .ok (.iconst 3, 1) := by decide +kernel
theorem dX6_init_162 : decode cX6_init 162 = .ok (.if_icmp .ge 22, 3) := by decide +kernel
theorem dX6_init_165 : decode cX6_init 165 = .ok (.aload_n 0, 1) := by decide +kernel
theorem dX6_init_166 : decode cX6_init 166 = .ok (.getfield 20, 3) := by decide +kernel
theorem dX6_init_169 : decode cX6_init 169 = .ok (.iload_n 1, 1) := by decide +kernel
theorem dX6_init_170 : decode cX6_init 170 = .ok (.new 18, 3) := by decide +kernel
theorem dX6_init_173 : decode cX6_init 173 = .ok (.dup, 1) := by decide +kernel
theorem dX6_init_174 : decode cX6_init 174 = .ok (.invokespecial 69, 3) := by decide +kernel
theorem dX6_init_177 : decode cX6_init 177 = .ok (.aastore, 1) := by decide +kernel
theorem dX6_init_178 : decode cX6_init 178 = .ok (.iinc 1 1, 3) := by decide +kernel
theorem dX6_init_181 : decode cX6_init 181 = .ok (.goto (-21), 3) := by decide +kernel
theorem dX6_init_184 : decode cX6_init 184 = .ok (.return_, 1) := by decide +kernel
theorem dX7_init_0 : decode cX7_init 0 = .ok (.aload_n 0, 1) := by decide +kernel
theorem dX7_init_1 : decode cX7_init 1 = .ok (.invokespecial 1, 3) := by decide +kernel
theorem dX7_init_4 : decode cX7_init 4 = .ok (.aload_n 0, 1) := by decide +kernel
theorem dX7_init_5 : decode cX7_init 5 = .ok (.bipush 6, 2) := by decide +kernel
theorem dX7_init_7 : decode cX7_init 7 = .ok (.newarray .int, 2) := by decide +kernel
theorem dX7_init_9 : decode cX7_init 9 = .ok (.putfield 7, 3) := by decide +kernel
theorem dX7_init_12 : decode cX7_init 12 = .ok (.aload_n 0, 1) := by decide +kernel
theorem dX7_init_13 : decode cX7_init 13 = .ok (.sipush 240, 3) := by decide +kernel
theorem dX7_init_16 : decode cX7_init 16 = .ok (.newarray .int, 2) := by decide +kernel
theorem dX7_init_18 : decode cX7_init 18 = .ok (.putfield 13, 3) := by decide +kernel
theorem dX7_init_21 : decode cX7_init 21 = .ok (.aload_n 0, 1) := by decide +kernel
theorem dX7_init_22 : decode cX7_init 22 = .ok (.iconst 4, 1) := by decide +kernel
theorem dX7_init_23 : decode cX7_init 23 = .ok (.newarray .int, 2) := by decide +kernel
theorem dX7_init_25 : decode cX7_init 25 = .ok (.putfield 16, 3) := by decide +kernel
theorem dX7_init_28 : decode cX7_init 28 = .ok (.aload_n 0, 1) := by decide +kernel
theorem dX7_init_29 : decode cX7_init 29 = .ok (.sipush 320, 3) := by decide +kernel
theorem dX7_init_32 : decode cX7_init 32 = .ok (.newarray .int, 2) := by decide +kernel
theorem dX7_init_34 : decode cX7_init 34 = .ok (.putfield 19, 3) := by decide +kernel
theorem dX7_init_37 : decode cX7_init 37 = .ok (.aload_n 0, 1) := by decide +kernel
theorem dX7_init_38 : decode cX7_init 38 = .ok (.sipush 393, 3) := by decide +kernel
theorem dX7_init_41 : decode cX7_init 41 = .ok (.newarray .int, 2) := by decide +kernel
theorem dX7_init_43 : decode cX7_init 43 = .ok (.putfield 22, 3) := by decide +kernel
theorem dX7_init_46 : decode cX7_init 46 = .ok (.aload_n 0, 1) := by decide +kernel
theorem dX7_init_47 : decode cX7_init 47 = .ok (.sipush 1179, 3) := by decide +kernel
theorem dX7_init_50 : decode cX7_init 50 = .ok (.newarray .int, 2) := by decide +kernel
theorem dX7_init_52 : decode cX7_init 52 = .ok (.putfield 25, 3) := by decide +kernel
theorem dX7_init_55 : decode cX7_init 55 = .ok (.aload_n 0, 1) := by decide +kernel
theorem dX7_init_56 : decode cX7_init 56 = .ok (.iconst 3, 1) := by decide +kernel
theorem dX7_init_57 : decode cX7_init 57 = .ok (.newarray .boolean, 2) := by decide +kernel
theorem dX7_init_59 : decode cX7_init 59 = .ok (.putfield 28, 3) := by decide +kernel
theorem dX7_init_62 : decode cX7_init 62 = .ok (.aload_n 0, 1) := by decide +kernel
theorem dX7_init_63 : decode cX7_init 63 = .ok (.lconst 1, 1) := by decide +kernel
theorem dX7_init_64 : decode cX7_init 64 = .ok (.putfield 32, 3) := by decide +kernel
theorem dX7_init_67 : decode cX7_init 67 = .ok (.aload_n 0, 1) := by decide +kernel
theorem dX7_init_68 : decode cX7_init 68 = .ok (.bipush 6, 2) := by decide +kernel
theorem dX7_init_70 : decode cX7_init 70 = .ok (.newarray .int, 2) := by decide +kernel
theorem dX7_init_72 : decode cX7_init 72 = .ok (.putfield 36, 3) := by decide +kernel
theorem dX7_init_75 : decode cX7_init 75 = .ok (.aload_n 0, 1) := by decide +kernel
theorem dX7_init_76 : decode cX7_init 76 = .ok (.sipush 393, 3) := by decide +kernel
theorem dX7_init_79 : decode cX7_init 79 = .ok (.newarray .int, 2) := by decide +kernel
theorem dX7_init_81 : decode cX7_init 81 = .ok (.putfield 39, 3) := by decide +kernel
theorem dX7_init_84 : decode cX7_init 84 = .ok (.aload_n 0, 1) := by decide +kernel
theorem dX7_init_85 : decode cX7_init 85 = .ok (.bipush 7, 2) := by decide +kernel
theorem dX7_init_87 : decode cX7_init 87 = .ok (.newarray .int, 2) := by decide +kernel
theorem dX7_init_89 : decode cX7_init 89 = .ok (.putfield 42, 3) := by decide +kernel
theorem dX7_init_92 : decode cX7_init 92 = .ok (.aload_n 0, 1) := by decide +kernel
theorem dX7_init_93 : decode cX7_init 93 = .ok (.bipush 7, 2) := by decide +kernel
theorem dX7_init_95 : decode cX7_init 95 = .ok (.newarray .int, 2) := by decide +kernel
theorem dX7_init_97 : decode cX7_init 97 = .ok (.putfield 45, 3) := by decide +kernel
theorem dX7_init_100 : decode cX7_init 100 = .ok (.aload_n 0, 1) := by decide +kernel
theorem dX7_init_101 : decode cX7_init 101 = .ok (.bipush 49, 2) := by decide +kernel
theorem dX7_init_103 : decode cX7_init 103 = .ok (.newarray .int, 2) := by decide +kernel
theorem dX7_init_105 : decode cX7_init 105 = .ok (.putfield 48, 3) := by decide +kernel
theorem dX7_init_108 : decode cX7_init 108 = .ok (.aload_n 0, 1) := by decide +kernel
theorem dX7_init_109 : decode cX7_init 109 = .ok (.sipush 128, 3) := by decide +kernel
theorem dX7_init_112 : decode cX7_init 112 = .ok (.newarray .int, 2) := by decide +kernel
theorem dX7_init_114 : decode cX7_init 114 = .ok (.putfield 51, 3) := by decide +kernel
theorem dX7_init_117 : decode cX7_init 117 = .ok (.aload_n 0, 1) := by decide +kernel
theorem dX7_init_118 : decode cX7_init 118 = .ok (.sipush 128, 3) := by decide +kernel
theorem dX7_init_121 : decode cX7_init 121 = .ok (.newarray .int, 2) := by decide +kernel
theorem dX7_init_123 : decode cX7_init 123 = .ok (.putfield 54, 3) := by decide +kernel
theorem dX7_init_126 : decode cX7_init 126 = .ok (.iconst 0, 1) := by decide +kernel
theorem dX7_init_127 : decode cX7_init 127 = .ok (.istore_n 1, 1) := by decide +kernel
theorem dX7_init_128 : decode cX7_init 128 = .ok (.iload_n 1, 1) := by decide +kernel
theorem dX7_init_129 : decode cX7_init 129 = .ok (.bipush 6, 2) := by decide +kernel
theorem dX7_init_131 : decode cX7_init 131 = .ok (.if_icmp .ge 16, 3) := by decide +kernel
theorem dX7_init_134 : decode cX7_init 134 = .ok (.aload_n 0, 1) := by decide +kernel
theorem dX7_init_135 : decode cX7_init 135 = .ok (.getfield 7, 3) := by decide +kernel
theorem dX7_init_138 : decode cX7_init 138 = .ok (.iload_n 1, 1) := by decide +kernel
theorem dX7_init_139 : decode cX7_init 139 = .ok (.iconst (-1), 1) := by decide +kernel
theorem dX7_init_140 : decode cX7_init 140 = .ok (.iastore, 1) := by decide +kernel
theorem dX7_init_141 : decode cX7_init 141 = .ok (.iinc 1 1, 3) := by decide +kernel
theorem dX7_init_144 : decode cX7_init 144 = .ok (.goto (-16), 3) := by decide +kernel
theorem dX7_init_147 : decode cX7_init 147 = .ok (.iconst 0, 1) := by decide +kernel
theorem dX7_init_148 : decode cX7_init 148 = .ok (.istore_n 1, 1) := by decide +kernel
theorem dX7_init_149 : decode cX7_init 149 = .ok (.iload_n 1, 1) := by decide +kernel
theorem dX7_init_150 : decode cX7_init 150 = .ok (.iconst 4, 1) := by decide +kernel
theorem dX7_init_151 : decode cX7_init 151 = .ok (.if_icmp .ge 16, 3) := by decide +kernel
theorem dX7_init_154 : decode cX7_init 154 = .ok (.aload_n 0, 1) := by decide +kernel
theorem dX7_init_155 : decode cX7_init 155 = .ok (.getfield 16, 3) := by decide +kernel
theorem dX7_init_158 : decode cX7_init 158 = .ok (.iload_n 1, 1) := by decide +kernel
theorem dX7_init_159 : decode cX7_init 159 = .ok (.iconst (-1), 1) := by decide +kernel
theorem dX7_init_160 : decode cX7_init 160 = .ok (.iastore, 1) := by decide +kernel
theorem dX7_init_161 : decode cX7_init 161 = .ok (.iinc 1 1, 3) := by decide +kernel
theorem dX7_init_164 : decode cX7_init 164 = .ok (.goto (-15), 3) := by decide +kernel
theorem dX7_init_167 : decode cX7_init 167 = .ok (.return_, 1) := by decide +kernel
theorem fp_X6_11 : aFp RX6 11 5 0 (.array (.object "LostQuestions$Row")) true := ⟨RX6, TX6, 12, tyX6, rfl, by decide, inX6g, Or.inl (am_mem 251 (by decide +kernel) rfl), tyX6_ok, nmX6, rfl, by decide +kernel, fun _ => rfl⟩
theorem fp_X6_15 : aFp RX6 15 5 1 (.array (.object "LostQuestions$Row")) true := ⟨RX6, TX6, 12, tyX6, rfl, by decide, inX6g, Or.inl (am_mem 252 (by decide +kernel) rfl), tyX6_ok, nmX6, rfl, by decide +kernel, fun _ => rfl⟩
theorem fp_X6_20 : aFp RX6 20 5 2 (.array (.object "LostQuestions$Standing")) true := ⟨RX6, TX6, 12, tyX6, rfl, by decide, inX6g, Or.inl (am_mem 253 (by decide +kernel) rfl), tyX6_ok, nmX6, rfl, by decide +kernel, fun _ => rfl⟩
theorem fp_X6_24 : aFp RX6 24 5 3 (.array .int) true := ⟨RX6, TX6, 12, tyX6, rfl, by decide, inX6g, Or.inl (am_mem 254 (by decide +kernel) rfl), tyX6_ok, nmX6, rfl, by decide +kernel, fun _ => rfl⟩
theorem nw_X6_28 : aNw RX6 28 1 8 := ⟨RX2, TX2, tyX2, rfl, inX2g, tyX2_ok, by decide +kernel, by decide, (am_mem 76 (by decide +kernel) rfl), (am_mem 77 (by decide +kernel) rfl), (am_mem 53 (by decide +kernel) rfl)⟩
theorem cc_X6_30 : aCI RX6 30 yX2_init mX2_init 0 := ⟨Or.inr ⟨"LostQuestions", (am_memN 78 (by decide +kernel) rfl)⟩, (am_mem 79 (by decide +kernel) rfl), (am_mem 53 (by decide +kernel) rfl), (am_mem 80 (by decide +kernel) rfl), rfl, rfl, by decide +kernel, by decide +kernel, by decide +kernel⟩
theorem fp_X6_31 : aFp RX6 31 5 4 (.object "LostQuestions$Matchings") true := ⟨RX6, TX6, 12, tyX6, rfl, by decide, inX6g, Or.inl (am_mem 255 (by decide +kernel) rfl), tyX6_ok, nmX6, rfl, by decide +kernel, fun _ => rfl⟩
theorem nw_X6_35 : aNw RX6 35 2 7 := ⟨RX3, TX3, tyX3, rfl, inX3g, tyX3_ok, by decide +kernel, by decide, (am_mem 110 (by decide +kernel) rfl), (am_mem 111 (by decide +kernel) rfl), (am_mem 54 (by decide +kernel) rfl)⟩
theorem cc_X6_37 : aCI RX6 37 yX3_init mX3_init 0 := ⟨Or.inr ⟨"LostQuestions", (am_memN 112 (by decide +kernel) rfl)⟩, (am_mem 113 (by decide +kernel) rfl), (am_mem 54 (by decide +kernel) rfl), (am_mem 114 (by decide +kernel) rfl), rfl, rfl, by decide +kernel, by decide +kernel, by decide +kernel⟩
theorem fp_X6_38 : aFp RX6 38 5 5 (.object "LostQuestions$Parting") true := ⟨RX6, TX6, 12, tyX6, rfl, by decide, inX6g, Or.inl (am_mem 256 (by decide +kernel) rfl), tyX6_ok, nmX6, rfl, by decide +kernel, fun _ => rfl⟩
theorem nw_X6_42 : aNw RX6 42 0 9 := ⟨RX1, TX1, tyX1, rfl, inX1g, tyX1_ok, by decide +kernel, by decide, (am_mem 141 (by decide +kernel) rfl), (am_mem 142 (by decide +kernel) rfl), (am_mem 55 (by decide +kernel) rfl)⟩
theorem cc_X6_44 : aCI RX6 44 yX1_init mX1_init 0 := ⟨Or.inl (am_mem 143 (by decide +kernel) rfl), (am_mem 144 (by decide +kernel) rfl), (am_mem 55 (by decide +kernel) rfl), (am_mem 145 (by decide +kernel) rfl), rfl, rfl, by decide +kernel, by decide +kernel, by decide +kernel⟩
theorem nw_X6_9 : aNw RX6 9 3 2 := ⟨RX4, TX4, tyX4, rfl, inX4g, tyX4_ok, by decide +kernel, by decide, (am_mem 72 (by decide +kernel) rfl), (am_mem 231 (by decide +kernel) rfl), (am_mem 58 (by decide +kernel) rfl)⟩
theorem cc_X6_66 : aCI RX6 66 yX4_init mX4_init 1 := ⟨Or.inl (am_mem 232 (by decide +kernel) rfl), (am_mem 233 (by decide +kernel) rfl), (am_mem 58 (by decide +kernel) rfl), (am_mem 234 (by decide +kernel) rfl), rfl, rfl, by decide +kernel, by decide +kernel, by decide +kernel⟩
theorem nw_X6_18 : aNw RX6 18 4 7 := ⟨RX5, TX5, tyX5, rfl, inX5g, tyX5_ok, by decide +kernel, by decide, (am_mem 74 (by decide +kernel) rfl), (am_mem 148 (by decide +kernel) rfl), (am_mem 56 (by decide +kernel) rfl)⟩
theorem cc_X6_69 : aCI RX6 69 yX5_init mX5_init 0 := ⟨Or.inr ⟨"LostQuestions", (am_memN 250 (by decide +kernel) rfl)⟩, (am_mem 150 (by decide +kernel) rfl), (am_mem 56 (by decide +kernel) rfl), (am_mem 151 (by decide +kernel) rfl), rfl, rfl, by decide +kernel, by decide +kernel, by decide +kernel⟩
theorem fp_X7_7 : aFp RX7 7 6 0 (.array .int) true := ⟨RX7, TX7, 21, tyX7, rfl, by decide, inX7g, Or.inl (am_mem 838 (by decide +kernel) rfl), tyX7_ok, nmX7, rfl, by decide +kernel, fun _ => rfl⟩
theorem cs_240 : (Int16.ofInt (240)).toInt32 = (240 : Int32) := by decide +kernel
theorem fp_X7_13 : aFp RX7 13 6 1 (.array .int) true := ⟨RX7, TX7, 21, tyX7, rfl, by decide, inX7g, Or.inl (am_mem 839 (by decide +kernel) rfl), tyX7_ok, nmX7, rfl, by decide +kernel, fun _ => rfl⟩
theorem fp_X7_16 : aFp RX7 16 6 2 (.array .int) true := ⟨RX7, TX7, 21, tyX7, rfl, by decide, inX7g, Or.inl (am_mem 840 (by decide +kernel) rfl), tyX7_ok, nmX7, rfl, by decide +kernel, fun _ => rfl⟩
theorem cs_320 : (Int16.ofInt (320)).toInt32 = (320 : Int32) := by decide +kernel
theorem fp_X7_19 : aFp RX7 19 6 3 (.array .int) true := ⟨RX7, TX7, 21, tyX7, rfl, by decide, inX7g, Or.inl (am_mem 841 (by decide +kernel) rfl), tyX7_ok, nmX7, rfl, by decide +kernel, fun _ => rfl⟩
theorem fp_X7_22 : aFp RX7 22 6 4 (.array .int) true := ⟨RX7, TX7, 21, tyX7, rfl, by decide, inX7g, Or.inl (am_mem 842 (by decide +kernel) rfl), tyX7_ok, nmX7, rfl, by decide +kernel, fun _ => rfl⟩
theorem cs_1179 : (Int16.ofInt (1179)).toInt32 = (1179 : Int32) := by decide +kernel
theorem fp_X7_25 : aFp RX7 25 6 5 (.array .int) true := ⟨RX7, TX7, 21, tyX7, rfl, by decide, inX7g, Or.inl (am_mem 843 (by decide +kernel) rfl), tyX7_ok, nmX7, rfl, by decide +kernel, fun _ => rfl⟩
theorem fp_X7_28 : aFp RX7 28 6 6 (.array .boolean) true := ⟨RX7, TX7, 21, tyX7, rfl, by decide, inX7g, Or.inl (am_mem 844 (by decide +kernel) rfl), tyX7_ok, nmX7, rfl, by decide +kernel, fun _ => rfl⟩
theorem fp_X7_36 : aFp RX7 36 6 11 (.array .int) true := ⟨RX7, TX7, 21, tyX7, rfl, by decide, inX7g, Or.inl (am_mem 849 (by decide +kernel) rfl), tyX7_ok, nmX7, rfl, by decide +kernel, fun _ => rfl⟩
theorem fp_X7_39 : aFp RX7 39 6 12 (.array .int) true := ⟨RX7, TX7, 21, tyX7, rfl, by decide, inX7g, Or.inl (am_mem 850 (by decide +kernel) rfl), tyX7_ok, nmX7, rfl, by decide +kernel, fun _ => rfl⟩
theorem fp_X7_42 : aFp RX7 42 6 14 (.array .int) true := ⟨RX7, TX7, 21, tyX7, rfl, by decide, inX7g, Or.inl (am_mem 852 (by decide +kernel) rfl), tyX7_ok, nmX7, rfl, by decide +kernel, fun _ => rfl⟩
theorem fp_X7_45 : aFp RX7 45 6 15 (.array .int) true := ⟨RX7, TX7, 21, tyX7, rfl, by decide, inX7g, Or.inl (am_mem 853 (by decide +kernel) rfl), tyX7_ok, nmX7, rfl, by decide +kernel, fun _ => rfl⟩
theorem fp_X7_48 : aFp RX7 48 6 16 (.array .int) true := ⟨RX7, TX7, 21, tyX7, rfl, by decide, inX7g, Or.inl (am_mem 854 (by decide +kernel) rfl), tyX7_ok, nmX7, rfl, by decide +kernel, fun _ => rfl⟩
theorem fp_X7_51 : aFp RX7 51 6 19 (.array .int) true := ⟨RX7, TX7, 21, tyX7, rfl, by decide, inX7g, Or.inl (am_mem 857 (by decide +kernel) rfl), tyX7_ok, nmX7, rfl, by decide +kernel, fun _ => rfl⟩
theorem fp_X7_54 : aFp RX7 54 6 20 (.array .int) true := ⟨RX7, TX7, 21, tyX7, rfl, by decide, inX7g, Or.inl (am_mem 858 (by decide +kernel) rfl), tyX7_ok, nmX7, rfl, by decide +kernel, fun _ => rfl⟩
theorem up_h0 : (va_up (va_up (va_up (va_up (va_up (va_up (va_up (va_up (fun _ => none) 0 (some 1)) 1 (some 2)) 2 (some 3)) 3 (some 4)) 4 (some 5)) 5 (some 9)) 6 (some 13)) 7 (some 27) : Nat → Option Nat) = HR0 13 27 := by
  funext j
  by_cases h : j < 30
  · have : ∀ j, j < 30 → (va_up (va_up (va_up (va_up (va_up (va_up (va_up (va_up (fun _ => none) 0 (some 1)) 1 (some 2)) 2 (some 3)) 3 (some 4)) 4 (some 5)) 5 (some 9)) 6 (some 13)) 7 (some 27) : Nat → Option Nat) j = HR0 13 27 j := by decide +kernel
    exact this j h
  · obtain ⟨i, rfl⟩ : ∃ i, j = i + 30 := ⟨j - 30, by omega⟩
    simp [va_up, HRn, HRs]
    try rfl
theorem up_rows : (va_up (va_up (va_up (va_up (va_up (va_up (fun _ => none) 0 (some 41)) 1 (some 43)) 2 (some 45)) 3 (some 47)) 4 (some 49)) 5 (some 51) : Nat → Option Nat) = HRs 41 2 6 := by
  funext j
  by_cases h : j < 30
  · have : ∀ j, j < 30 → (va_up (va_up (va_up (va_up (va_up (va_up (fun _ => none) 0 (some 41)) 1 (some 43)) 2 (some 45)) 3 (some 47)) 4 (some 49)) 5 (some 51) : Nat → Option Nat) j = HRs 41 2 6 j := by decide +kernel
    exact this j h
  · obtain ⟨i, rfl⟩ : ∃ i, j = i + 30 := ⟨j - 30, by omega⟩
    simp [va_up, HRn, HRs]
    try rfl
theorem up_txts : (va_up (va_up (va_up (va_up (fun _ => none) 0 (some 53)) 1 (some 55)) 2 (some 57)) 3 (some 59) : Nat → Option Nat) = HRs 53 2 4 := by
  funext j
  by_cases h : j < 30
  · have : ∀ j, j < 30 → (va_up (va_up (va_up (va_up (fun _ => none) 0 (some 53)) 1 (some 55)) 2 (some 57)) 3 (some 59) : Nat → Option Nat) j = HRs 53 2 4 j := by decide +kernel
    exact this j h
  · obtain ⟨i, rfl⟩ : ∃ i, j = i + 30 := ⟨j - 30, by omega⟩
    simp [va_up, HRn, HRs]
    try rfl
theorem up_kept : (va_up (va_up (va_up (fun _ => none) 0 (some 61)) 1 (some 68)) 2 (some 75) : Nat → Option Nat) = HRs 61 7 3 := by
  funext j
  by_cases h : j < 30
  · have : ∀ j, j < 30 → (va_up (va_up (va_up (fun _ => none) 0 (some 61)) 1 (some 68)) 2 (some 75) : Nat → Option Nat) j = HRs 61 7 3 j := by decide +kernel
    exact this j h
  · obtain ⟨i, rfl⟩ : ∃ i, j = i + 30 := ⟨j - 30, by omega⟩
    simp [va_up, HRn, HRs]
    try rfl
theorem up_n41 : (va_up (fun _ => none) 0 (some (41 + 1)) : Nat → Option Nat) = HRn 41 1 := by
  funext j
  by_cases h : j < 30
  · have : ∀ j, j < 30 → (va_up (fun _ => none) 0 (some (41 + 1)) : Nat → Option Nat) j = HRn 41 1 j := by decide +kernel
    exact this j h
  · obtain ⟨i, rfl⟩ : ∃ i, j = i + 30 := ⟨j - 30, by omega⟩
    simp [va_up, HRn, HRs]
    try rfl
theorem up_n43 : (va_up (fun _ => none) 0 (some (43 + 1)) : Nat → Option Nat) = HRn 43 1 := by
  funext j
  by_cases h : j < 30
  · have : ∀ j, j < 30 → (va_up (fun _ => none) 0 (some (43 + 1)) : Nat → Option Nat) j = HRn 43 1 j := by decide +kernel
    exact this j h
  · obtain ⟨i, rfl⟩ : ∃ i, j = i + 30 := ⟨j - 30, by omega⟩
    simp [va_up, HRn, HRs]
    try rfl
theorem up_n45 : (va_up (fun _ => none) 0 (some (45 + 1)) : Nat → Option Nat) = HRn 45 1 := by
  funext j
  by_cases h : j < 30
  · have : ∀ j, j < 30 → (va_up (fun _ => none) 0 (some (45 + 1)) : Nat → Option Nat) j = HRn 45 1 j := by decide +kernel
    exact this j h
  · obtain ⟨i, rfl⟩ : ∃ i, j = i + 30 := ⟨j - 30, by omega⟩
    simp [va_up, HRn, HRs]
    try rfl
theorem up_n47 : (va_up (fun _ => none) 0 (some (47 + 1)) : Nat → Option Nat) = HRn 47 1 := by
  funext j
  by_cases h : j < 30
  · have : ∀ j, j < 30 → (va_up (fun _ => none) 0 (some (47 + 1)) : Nat → Option Nat) j = HRn 47 1 j := by decide +kernel
    exact this j h
  · obtain ⟨i, rfl⟩ : ∃ i, j = i + 30 := ⟨j - 30, by omega⟩
    simp [va_up, HRn, HRs]
    try rfl
theorem up_n49 : (va_up (fun _ => none) 0 (some (49 + 1)) : Nat → Option Nat) = HRn 49 1 := by
  funext j
  by_cases h : j < 30
  · have : ∀ j, j < 30 → (va_up (fun _ => none) 0 (some (49 + 1)) : Nat → Option Nat) j = HRn 49 1 j := by decide +kernel
    exact this j h
  · obtain ⟨i, rfl⟩ : ∃ i, j = i + 30 := ⟨j - 30, by omega⟩
    simp [va_up, HRn, HRs]
    try rfl
theorem up_n51 : (va_up (fun _ => none) 0 (some (51 + 1)) : Nat → Option Nat) = HRn 51 1 := by
  funext j
  by_cases h : j < 30
  · have : ∀ j, j < 30 → (va_up (fun _ => none) 0 (some (51 + 1)) : Nat → Option Nat) j = HRn 51 1 j := by decide +kernel
    exact this j h
  · obtain ⟨i, rfl⟩ : ∃ i, j = i + 30 := ⟨j - 30, by omega⟩
    simp [va_up, HRn, HRs]
    try rfl
theorem up_n53 : (va_up (fun _ => none) 0 (some (53 + 1)) : Nat → Option Nat) = HRn 53 1 := by
  funext j
  by_cases h : j < 30
  · have : ∀ j, j < 30 → (va_up (fun _ => none) 0 (some (53 + 1)) : Nat → Option Nat) j = HRn 53 1 j := by decide +kernel
    exact this j h
  · obtain ⟨i, rfl⟩ : ∃ i, j = i + 30 := ⟨j - 30, by omega⟩
    simp [va_up, HRn, HRs]
    try rfl
theorem up_n55 : (va_up (fun _ => none) 0 (some (55 + 1)) : Nat → Option Nat) = HRn 55 1 := by
  funext j
  by_cases h : j < 30
  · have : ∀ j, j < 30 → (va_up (fun _ => none) 0 (some (55 + 1)) : Nat → Option Nat) j = HRn 55 1 j := by decide +kernel
    exact this j h
  · obtain ⟨i, rfl⟩ : ∃ i, j = i + 30 := ⟨j - 30, by omega⟩
    simp [va_up, HRn, HRs]
    try rfl
theorem up_n57 : (va_up (fun _ => none) 0 (some (57 + 1)) : Nat → Option Nat) = HRn 57 1 := by
  funext j
  by_cases h : j < 30
  · have : ∀ j, j < 30 → (va_up (fun _ => none) 0 (some (57 + 1)) : Nat → Option Nat) j = HRn 57 1 j := by decide +kernel
    exact this j h
  · obtain ⟨i, rfl⟩ : ∃ i, j = i + 30 := ⟨j - 30, by omega⟩
    simp [va_up, HRn, HRs]
    try rfl
theorem up_n59 : (va_up (fun _ => none) 0 (some (59 + 1)) : Nat → Option Nat) = HRn 59 1 := by
  funext j
  by_cases h : j < 30
  · have : ∀ j, j < 30 → (va_up (fun _ => none) 0 (some (59 + 1)) : Nat → Option Nat) j = HRn 59 1 j := by decide +kernel
    exact this j h
  · obtain ⟨i, rfl⟩ : ∃ i, j = i + 30 := ⟨j - 30, by omega⟩
    simp [va_up, HRn, HRs]
    try rfl
theorem up_n5 : (va_up (va_up (va_up (fun _ => none) 0 (some (5 + 1))) 1 (some (5 + 2))) 2 (some (5 + 3)) : Nat → Option Nat) = HRn 5 3 := by
  funext j
  by_cases h : j < 30
  · have : ∀ j, j < 30 → (va_up (va_up (va_up (fun _ => none) 0 (some (5 + 1))) 1 (some (5 + 2))) 2 (some (5 + 3)) : Nat → Option Nat) j = HRn 5 3 j := by decide +kernel
    exact this j h
  · obtain ⟨i, rfl⟩ : ∃ i, j = i + 30 := ⟨j - 30, by omega⟩
    simp [va_up, HRn, HRs]
    try rfl
theorem up_n9 : (va_up (va_up (va_up (fun _ => none) 0 (some (9 + 1))) 1 (some (9 + 2))) 2 (some (9 + 3)) : Nat → Option Nat) = HRn 9 3 := by
  funext j
  by_cases h : j < 30
  · have : ∀ j, j < 30 → (va_up (va_up (va_up (fun _ => none) 0 (some (9 + 1))) 1 (some (9 + 2))) 2 (some (9 + 3)) : Nat → Option Nat) j = HRn 9 3 j := by decide +kernel
    exact this j h
  · obtain ⟨i, rfl⟩ : ∃ i, j = i + 30 := ⟨j - 30, by omega⟩
    simp [va_up, HRn, HRs]
    try rfl
theorem up_n13 : (va_up (va_up (va_up (va_up (va_up (va_up (va_up (fun _ => none) 0 (some (13 + 1))) 1 (some (13 + 2))) 2 (some (13 + 3))) 3 (some (13 + 4))) 4 (some (13 + 5))) 5 (some (13 + 6))) 6 (some (13 + 7)) : Nat → Option Nat) = HRn 13 7 := by
  funext j
  by_cases h : j < 30
  · have : ∀ j, j < 30 → (va_up (va_up (va_up (va_up (va_up (va_up (va_up (fun _ => none) 0 (some (13 + 1))) 1 (some (13 + 2))) 2 (some (13 + 3))) 3 (some (13 + 4))) 4 (some (13 + 5))) 5 (some (13 + 6))) 6 (some (13 + 7)) : Nat → Option Nat) j = HRn 13 7 j := by decide +kernel
    exact this j h
  · obtain ⟨i, rfl⟩ : ∃ i, j = i + 30 := ⟨j - 30, by omega⟩
    simp [va_up, HRn, HRs]
    try rfl
theorem up_n27 : (va_up (va_up (va_up (va_up (va_up (va_up (va_up (fun _ => none) 0 (some (27 + 1))) 1 (some (27 + 2))) 2 (some (27 + 3))) 3 (some (27 + 4))) 4 (some (27 + 5))) 5 (some (27 + 6))) 6 (some (27 + 7)) : Nat → Option Nat) = HRn 27 7 := by
  funext j
  by_cases h : j < 30
  · have : ∀ j, j < 30 → (va_up (va_up (va_up (va_up (va_up (va_up (va_up (fun _ => none) 0 (some (27 + 1))) 1 (some (27 + 2))) 2 (some (27 + 3))) 3 (some (27 + 4))) 4 (some (27 + 5))) 5 (some (27 + 6))) 6 (some (27 + 7)) : Nat → Option Nat) j = HRn 27 7 j := by decide +kernel
    exact this j h
  · obtain ⟨i, rfl⟩ : ∃ i, j = i + 30 := ⟨j - 30, by omega⟩
    simp [va_up, HRn, HRs]
    try rfl
theorem up_n20 : (va_up (va_up (va_up (va_up (va_up (va_up (fun _ => none) 0 (some (13 + 7 + 1))) 1 (some (13 + 7 + 2))) 2 (some (13 + 7 + 3))) 3 (some (13 + 7 + 4))) 4 (some (13 + 7 + 5))) 5 (some (13 + 7 + 6)) : Nat → Option Nat) = HRn 20 6 := by
  funext j
  by_cases h : j < 30
  · have : ∀ j, j < 30 → (va_up (va_up (va_up (va_up (va_up (va_up (fun _ => none) 0 (some (13 + 7 + 1))) 1 (some (13 + 7 + 2))) 2 (some (13 + 7 + 3))) 3 (some (13 + 7 + 4))) 4 (some (13 + 7 + 5))) 5 (some (13 + 7 + 6)) : Nat → Option Nat) j = HRn 20 6 j := by decide +kernel
    exact this j h
  · obtain ⟨i, rfl⟩ : ∃ i, j = i + 30 := ⟨j - 30, by omega⟩
    simp [va_up, HRn, HRs]
    try rfl
theorem up_n34 : (va_up (va_up (va_up (va_up (va_up (va_up (fun _ => none) 0 (some (27 + 7 + 1))) 1 (some (27 + 7 + 2))) 2 (some (27 + 7 + 3))) 3 (some (27 + 7 + 4))) 4 (some (27 + 7 + 5))) 5 (some (27 + 7 + 6)) : Nat → Option Nat) = HRn 34 6 := by
  funext j
  by_cases h : j < 30
  · have : ∀ j, j < 30 → (va_up (va_up (va_up (va_up (va_up (va_up (fun _ => none) 0 (some (27 + 7 + 1))) 1 (some (27 + 7 + 2))) 2 (some (27 + 7 + 3))) 3 (some (27 + 7 + 4))) 4 (some (27 + 7 + 5))) 5 (some (27 + 7 + 6)) : Nat → Option Nat) j = HRn 34 6 j := by decide +kernel
    exact this j h
  · obtain ⟨i, rfl⟩ : ∃ i, j = i + 30 := ⟨j - 30, by omega⟩
    simp [va_up, HRn, HRs]
    try rfl
theorem up_n61 : (va_up (va_up (va_up (va_up (va_up (va_up (fun _ => none) 0 (some (61 + 1))) 1 (some (61 + 2))) 2 (some (61 + 3))) 3 (some (61 + 4))) 4 (some (61 + 5))) 5 (some (61 + 6)) : Nat → Option Nat) = HRn 61 6 := by
  funext j
  by_cases h : j < 30
  · have : ∀ j, j < 30 → (va_up (va_up (va_up (va_up (va_up (va_up (fun _ => none) 0 (some (61 + 1))) 1 (some (61 + 2))) 2 (some (61 + 3))) 3 (some (61 + 4))) 4 (some (61 + 5))) 5 (some (61 + 6)) : Nat → Option Nat) j = HRn 61 6 j := by decide +kernel
    exact this j h
  · obtain ⟨i, rfl⟩ : ∃ i, j = i + 30 := ⟨j - 30, by omega⟩
    simp [va_up, HRn, HRs]
    try rfl
theorem up_n68 : (va_up (va_up (va_up (va_up (va_up (va_up (fun _ => none) 0 (some (68 + 1))) 1 (some (68 + 2))) 2 (some (68 + 3))) 3 (some (68 + 4))) 4 (some (68 + 5))) 5 (some (68 + 6)) : Nat → Option Nat) = HRn 68 6 := by
  funext j
  by_cases h : j < 30
  · have : ∀ j, j < 30 → (va_up (va_up (va_up (va_up (va_up (va_up (fun _ => none) 0 (some (68 + 1))) 1 (some (68 + 2))) 2 (some (68 + 3))) 3 (some (68 + 4))) 4 (some (68 + 5))) 5 (some (68 + 6)) : Nat → Option Nat) j = HRn 68 6 j := by decide +kernel
    exact this j h
  · obtain ⟨i, rfl⟩ : ∃ i, j = i + 30 := ⟨j - 30, by omega⟩
    simp [va_up, HRn, HRs]
    try rfl
theorem up_n75 : (va_up (va_up (va_up (va_up (va_up (va_up (fun _ => none) 0 (some (75 + 1))) 1 (some (75 + 2))) 2 (some (75 + 3))) 3 (some (75 + 4))) 4 (some (75 + 5))) 5 (some (75 + 6)) : Nat → Option Nat) = HRn 75 6 := by
  funext j
  by_cases h : j < 30
  · have : ∀ j, j < 30 → (va_up (va_up (va_up (va_up (va_up (va_up (fun _ => none) 0 (some (75 + 1))) 1 (some (75 + 2))) 2 (some (75 + 3))) 3 (some (75 + 4))) 4 (some (75 + 5))) 5 (some (75 + 6)) : Nat → Option Nat) j = HRn 75 6 j := by decide +kernel
    exact this j h
  · obtain ⟨i, rfl⟩ : ∃ i, j = i + 30 := ⟨j - 30, by omega⟩
    simp [va_up, HRn, HRs]
    try rfl
theorem up_hm : (va_up (va_up (va_up (va_up (va_up (va_up (va_up (va_up (va_up (va_up (va_up (va_up (va_up (va_up (fun _ => none) 0 (some 83)) 1 (some 84)) 2 (some 85)) 3 (some 86)) 4 (some 87)) 5 (some 88)) 6 (some 89)) 11 (some 90)) 12 (some 91)) 14 (some 92)) 15 (some 93)) 16 (some 94)) 19 (some 95)) 20 (some 96) : Nat → Option Nat) = HRm := by
  funext j
  by_cases h : j < 30
  · have : ∀ j, j < 30 → (va_up (va_up (va_up (va_up (va_up (va_up (va_up (va_up (va_up (va_up (va_up (va_up (va_up (va_up (fun _ => none) 0 (some 83)) 1 (some 84)) 2 (some 85)) 3 (some 86)) 4 (some 87)) 5 (some 88)) 6 (some 89)) 11 (some 90)) 12 (some 91)) 14 (some 92)) 15 (some 93)) 16 (some 94)) 19 (some 95)) 20 (some 96) : Nat → Option Nat) j = HRm j := by decide +kernel
    exact this j h
  · obtain ⟨i, rfl⟩ : ∃ i, j = i + 30 := ⟨j - 30, by omega⟩
    simp [va_up, HRn, HRs]
    try rfl
def FX (S : aSt) : Prop := RfX S 13 27 ∧ (S.1 0 8 = 0 ∧ S.1 0 11 = 0 ∧ (∀ f, S.1 4 f = 0) ∧ S.2.1 0 9 = 0 ∧ S.2.1 0 10 = 1) ∧ (∀ r, r < 10 → S.1 (41 + 2 * r) 1 = -1) ∧ (S.1 13 7 = 0 ∧ S.1 13 8 = 0 ∧ S.1 20 6 = 0 ∧ ∀ q, q < 7 → S.1 24 q = -9) ∧ (∀ i, i < 3 → S.1 (61 + 7 * i) 6 = -1) ∧ Zr S 82
def FM (S S' : aSt) : Prop := (∀ a, a < 82 → S'.1 a = S.1 a ∧ S'.2.1 a = S.2.1 a ∧ S'.2.2 a = S.2.2 a) ∧ S'.2.2 82 = HRm ∧ (∀ r, r < 6 → S'.1 83 r = -1) ∧ (∀ r, r < 4 → S'.1 85 r = -1) ∧ S'.1 82 7 = 0 ∧ S'.1 82 10 = 0 ∧ (∀ f, S'.1 90 f = 0) ∧ S'.2.1 82 8 = 0 ∧ S'.2.1 82 9 = 1 ∧ (∀ i, S'.1 89 i = 0) ∧ ∀ i, S'.1 87 i = 0
set_option maxHeartbeats 8000000 in
theorem K_X6 {G : aG} {l : Launch} {S : aSt} (hz : Zr S 0) : ∃ S', Ctr G l yX6_init mX6_init (rmK 6 81 4691) 1 82 S [.ref 0] none S' ∧ FX S' := by
  have hz1 : Zr S 1 := hz.up (by omega)
  obtain ⟨S1, e1⟩ : ∃ z, z = stR S 0 0 (some 1) := ⟨_, rfl⟩
  obtain ⟨S2, e2⟩ : ∃ z, z = stR S1 0 1 (some 2) := ⟨_, rfl⟩
  obtain ⟨S3, e3⟩ : ∃ z, z = stR S2 0 2 (some 3) := ⟨_, rfl⟩
  obtain ⟨S4, e4⟩ : ∃ z, z = stR S3 0 3 (some 4) := ⟨_, rfl⟩
  obtain ⟨S5, e5⟩ : ∃ z, z = matI S4 5 := ⟨_, rfl⟩
  obtain ⟨S6, e6⟩ : ∃ z, z = stR S5 0 4 (some 5) := ⟨_, rfl⟩
  obtain ⟨S7, e7⟩ : ∃ z, z = parI S6 9 := ⟨_, rfl⟩
  obtain ⟨S8, e8⟩ : ∃ z, z = stR S7 0 5 (some 9) := ⟨_, rfl⟩
  obtain ⟨S9, e9⟩ : ∃ z, z = libI S8 13 := ⟨_, rfl⟩
  obtain ⟨S10, e10⟩ : ∃ z, z = stR S9 0 6 (some 13) := ⟨_, rfl⟩
  obtain ⟨S11, e11⟩ : ∃ z, z = libI S10 27 := ⟨_, rfl⟩
  obtain ⟨S12, e12⟩ : ∃ z, z = stR S11 0 7 (some 27) := ⟨_, rfl⟩
  obtain ⟨S13, e13⟩ : ∃ z, z = stI S12 0 8 (0 : Int32) := ⟨_, rfl⟩
  obtain ⟨S14, e14⟩ : ∃ z, z = stL S13 0 9 (0 : Int64) := ⟨_, rfl⟩
  obtain ⟨S15, e15⟩ : ∃ z, z = stL S14 0 10 (1 : Int64) := ⟨_, rfl⟩
  obtain ⟨S16, e16⟩ : ∃ z, z = stI S15 0 11 (0 : Int32) := ⟨_, rfl⟩
  obtain ⟨S17, e17⟩ : ∃ z, z = rowI S16 41 := ⟨_, rfl⟩
  obtain ⟨S18, e18⟩ : ∃ z, z = stR S17 1 0 (some 41) := ⟨_, rfl⟩
  obtain ⟨S19, e19⟩ : ∃ z, z = rowI S18 43 := ⟨_, rfl⟩
  obtain ⟨S20, e20⟩ : ∃ z, z = stR S19 1 1 (some 43) := ⟨_, rfl⟩
  obtain ⟨S21, e21⟩ : ∃ z, z = rowI S20 45 := ⟨_, rfl⟩
  obtain ⟨S22, e22⟩ : ∃ z, z = stR S21 1 2 (some 45) := ⟨_, rfl⟩
  obtain ⟨S23, e23⟩ : ∃ z, z = rowI S22 47 := ⟨_, rfl⟩
  obtain ⟨S24, e24⟩ : ∃ z, z = stR S23 1 3 (some 47) := ⟨_, rfl⟩
  obtain ⟨S25, e25⟩ : ∃ z, z = rowI S24 49 := ⟨_, rfl⟩
  obtain ⟨S26, e26⟩ : ∃ z, z = stR S25 1 4 (some 49) := ⟨_, rfl⟩
  obtain ⟨S27, e27⟩ : ∃ z, z = rowI S26 51 := ⟨_, rfl⟩
  obtain ⟨S28, e28⟩ : ∃ z, z = stR S27 1 5 (some 51) := ⟨_, rfl⟩
  obtain ⟨S29, e29⟩ : ∃ z, z = rowI S28 53 := ⟨_, rfl⟩
  obtain ⟨S30, e30⟩ : ∃ z, z = stR S29 2 0 (some 53) := ⟨_, rfl⟩
  obtain ⟨S31, e31⟩ : ∃ z, z = rowI S30 55 := ⟨_, rfl⟩
  obtain ⟨S32, e32⟩ : ∃ z, z = stR S31 2 1 (some 55) := ⟨_, rfl⟩
  obtain ⟨S33, e33⟩ : ∃ z, z = rowI S32 57 := ⟨_, rfl⟩
  obtain ⟨S34, e34⟩ : ∃ z, z = stR S33 2 2 (some 57) := ⟨_, rfl⟩
  obtain ⟨S35, e35⟩ : ∃ z, z = rowI S34 59 := ⟨_, rfl⟩
  obtain ⟨S36, e36⟩ : ∃ z, z = stR S35 2 3 (some 59) := ⟨_, rfl⟩
  obtain ⟨S37, e37⟩ : ∃ z, z = stdI S36 61 := ⟨_, rfl⟩
  obtain ⟨S38, e38⟩ : ∃ z, z = stR S37 3 0 (some 61) := ⟨_, rfl⟩
  obtain ⟨S39, e39⟩ : ∃ z, z = stdI S38 68 := ⟨_, rfl⟩
  obtain ⟨S40, e40⟩ : ∃ z, z = stR S39 3 1 (some 68) := ⟨_, rfl⟩
  obtain ⟨S41, e41⟩ : ∃ z, z = stdI S40 75 := ⟨_, rfl⟩
  obtain ⟨S42, e42⟩ : ∃ z, z = stR S41 3 2 (some 75) := ⟨_, rfl⟩
  refine ⟨S42, ?_, ?_⟩
  · refine Ctr.of (by decide) rfl rfl (Nat.le_of_ble_eq_true rfl) [(0, .ref 0)] rfl ?_
    refine Go.aload_n 0 1 rfl dX6_init_0 rfl ?_
    refine Go.objI 4 rfl dX6_init_1 (am_mem 69 (by decide +kernel) rfl) (am_mem 70 (by decide +kernel) rfl) (am_mem 71 (by decide +kernel) rfl) (Nat.le_of_ble_eq_true rfl) (Nat.le_of_ble_eq_true rfl) ?_
    refine Go.aload_n 0 5 rfl dX6_init_4 rfl ?_
    refine Go.bipush (6 : Int32) 7 rfl dX6_init_5 cb_6 ?_
    refine Go.newR (N := 6) 10 2 1 6 rfl rfl rfl rfl dX6_init_7 (am_mem 72 (by decide +kernel) rfl) (by decide +kernel) rfl (by decide) (by decide) hz1 (by decide) (by decide) ?_
    have y5 : Zr S 2 := hz1.up (by omega)
    refine Go.putR 13 rfl dX6_init_10 fp_X6_11 (Or.inr ⟨_, rfl⟩) rfl (by decide) (by decide +kernel) (fun _ => rfl) (Go.stG S1 e1 ?_)
    have z1 : Zr S1 2 := by rw [e1]; exact y5.R (by omega)
    refine Go.aload_n 0 14 rfl dX6_init_13 rfl ?_
    refine Go.iconst (4 : Int32) 15 rfl dX6_init_14 ci_4 ?_
    refine Go.newR (N := 4) 18 3 2 10 rfl rfl rfl rfl dX6_init_15 (am_mem 72 (by decide +kernel) rfl) (by decide +kernel) rfl (by decide) (by decide) z1 (by decide) (by decide) ?_
    have y11 : Zr S1 3 := z1.up (by omega)
    refine Go.putR 21 rfl dX6_init_18 fp_X6_15 (Or.inr ⟨_, rfl⟩) rfl (by decide) (by decide +kernel) (fun _ => rfl) (Go.stG S2 e2 ?_)
    have z2 : Zr S2 3 := by rw [e2]; exact y11.R (by omega)
    refine Go.aload_n 0 22 rfl dX6_init_21 rfl ?_
    refine Go.iconst (3 : Int32) 23 rfl dX6_init_22 ci_3 ?_
    refine Go.newS (N := 3) 26 4 3 13 rfl rfl rfl rfl dX6_init_23 (am_mem 74 (by decide +kernel) rfl) (by decide +kernel) rfl (by decide) (by decide) z2 (by decide) (by decide) ?_
    have y17 : Zr S2 4 := z2.up (by omega)
    refine Go.putR 29 rfl dX6_init_26 fp_X6_20 (Or.inr ⟨_, rfl⟩) rfl (by decide) (by decide +kernel) (fun _ => rfl) (Go.stG S3 e3 ?_)
    have z3 : Zr S3 4 := by rw [e3]; exact y17.R (by omega)
    refine Go.aload_n 0 30 rfl dX6_init_29 rfl ?_
    refine Go.bipush (6 : Int32) 32 rfl dX6_init_30 cb_6 ?_
    refine Go.newI (N := 6) 34 5 4 19 rfl rfl rfl rfl dX6_init_32 (by decide +kernel) rfl (by decide) (by decide) z3 (am_mem 109 (by decide +kernel) rfl) (Nat.le_of_ble_eq_true rfl) (by decide) ?_
    have y23 : Zr S3 5 := z3.up (by omega)
    refine Go.putR 37 rfl dX6_init_34 fp_X6_24 (Or.inr ⟨_, rfl⟩) rfl (by decide) (by decide +kernel) (fun _ => rfl) (Go.stG S4 e4 ?_)
    have z4 : Zr S4 5 := by rw [e4]; exact y23.R (by omega)
    refine Go.aload_n 0 38 rfl dX6_init_37 rfl ?_
    refine Go.newO 41 6 5 27 rfl rfl rfl rfl dX6_init_38 nw_X6_28 (by decide +kernel) (by decide) z4 (by decide) (by decide) ?_
    have y28 : Zr S4 6 := z4.up (by omega)
    refine Go.dup 42 rfl dX6_init_41 rfl ?_
    refine Go.callI 45 9 8 2082 [] [.ref 5, .ref 0] rfl rfl rfl rfl dX6_init_42 (K_X2 (by decide +kernel) (by decide +kernel) (by decide +kernel) (by decide +kernel) (by decide) y28) cc_X6_30 ⟨by decide, by decide⟩ ⟨by decide, by decide⟩ rfl (Nat.le_of_ble_eq_true rfl) (Go.stG S5 e5 ?_)
    have z5 : Zr S5 9 := by rw [e5]; exact matI_z (y28.up (by omega)) (by omega)
    refine Go.putR 48 rfl dX6_init_45 fp_X6_31 (Or.inl ⟨_, rfl⟩) rfl (by decide) (by decide +kernel) (fun _ => rfl) (Go.stG S6 e6 ?_)
    have z6 : Zr S6 9 := by rw [e6]; exact z5.R (by omega)
    refine Go.aload_n 0 49 rfl dX6_init_48 rfl ?_
    refine Go.newO 52 10 9 2089 rfl rfl rfl rfl dX6_init_49 nw_X6_35 (by decide +kernel) (by decide) z6 (by decide) (by decide) ?_
    have y36 : Zr S6 10 := z6.up (by omega)
    refine Go.dup 53 rfl dX6_init_52 rfl ?_
    refine Go.callI 56 13 12 2234 [] [.ref 9, .ref 0] rfl rfl rfl rfl dX6_init_53 (K_X3 (by decide +kernel) (by decide +kernel) (by decide +kernel) (by decide +kernel) (by decide) y36) cc_X6_37 ⟨by decide, by decide⟩ ⟨by decide, by decide⟩ rfl (Nat.le_of_ble_eq_true rfl) (Go.stG S7 e7 ?_)
    have z7 : Zr S7 13 := by rw [e7]; exact parI_z (y36.up (by omega)) (by omega)
    refine Go.putR 59 rfl dX6_init_56 fp_X6_38 (Or.inl ⟨_, rfl⟩) rfl (by decide) (by decide +kernel) (fun _ => rfl) (Go.stG S8 e8 ?_)
    have z8 : Zr S8 13 := by rw [e8]; exact z7.R (by omega)
    refine Go.aload_n 0 60 rfl dX6_init_59 rfl ?_
    refine Go.newO 63 14 13 2243 rfl rfl rfl rfl dX6_init_60 nw_X6_42 (by decide +kernel) (by decide) z8 (by decide) (by decide) ?_
    have y44 : Zr S8 14 := z8.up (by omega)
    refine Go.dup 64 rfl dX6_init_63 rfl ?_
    refine Go.callI 67 27 26 2640 [] [.ref 13, .ref 0] rfl rfl rfl rfl dX6_init_64 (K_X1 (by decide +kernel) (by decide +kernel) (by decide +kernel) (by decide +kernel) (by decide +kernel) (by decide +kernel) (by decide +kernel) (by decide +kernel) (by decide +kernel) (by decide +kernel) (by decide +kernel) (by decide +kernel) (by decide +kernel) (by decide +kernel) (by decide) y44) cc_X6_44 ⟨by decide, by decide⟩ ⟨by decide, by decide⟩ rfl (Nat.le_of_ble_eq_true rfl) (Go.stG S9 e9 ?_)
    have z9 : Zr S9 27 := by rw [e9]; exact libI_z (y44.up (by omega)) (by omega)
    refine Go.putR 70 rfl dX6_init_67 fp_X6_45 (Or.inl ⟨_, rfl⟩) rfl (by decide) (by decide +kernel) (fun _ => rfl) (Go.stG S10 e10 ?_)
    have z10 : Zr S10 27 := by rw [e10]; exact z9.R (by omega)
    refine Go.aload_n 0 71 rfl dX6_init_70 rfl ?_
    refine Go.newO 74 28 27 2649 rfl rfl rfl rfl dX6_init_71 nw_X6_42 (by decide +kernel) (by decide) z10 (by decide) (by decide) ?_
    have y52 : Zr S10 28 := z10.up (by omega)
    refine Go.dup 75 rfl dX6_init_74 rfl ?_
    refine Go.callI 78 41 40 3046 [] [.ref 27, .ref 0] rfl rfl rfl rfl dX6_init_75 (K_X1 (by decide +kernel) (by decide +kernel) (by decide +kernel) (by decide +kernel) (by decide +kernel) (by decide +kernel) (by decide +kernel) (by decide +kernel) (by decide +kernel) (by decide +kernel) (by decide +kernel) (by decide +kernel) (by decide +kernel) (by decide +kernel) (by decide) y52) cc_X6_44 ⟨by decide, by decide⟩ ⟨by decide, by decide⟩ rfl (Nat.le_of_ble_eq_true rfl) (Go.stG S11 e11 ?_)
    have z11 : Zr S11 41 := by rw [e11]; exact libI_z (y52.up (by omega)) (by omega)
    refine Go.putR 81 rfl dX6_init_78 fp_X6_49 (Or.inl ⟨_, rfl⟩) rfl (by decide) (by decide +kernel) (fun _ => rfl) (Go.stG S12 e12 ?_)
    have z12 : Zr S12 41 := by rw [e12]; exact z11.R (by omega)
    refine Go.aload_n 0 82 rfl dX6_init_81 rfl ?_
    refine Go.iconst (0 : Int32) 83 rfl dX6_init_82 ci_0 ?_
    refine Go.putI 86 rfl dX6_init_83 fp_X6_52 rfl (by decide) (by decide +kernel) (fun _ => rfl) (Go.stG S13 e13 ?_)
    have z13 : Zr S13 41 := by rw [e13]; exact z12.I (by omega)
    refine Go.aload_n 0 87 rfl dX6_init_86 rfl ?_
    refine Go.lconst (0 : Int64) 88 rfl dX6_init_87 cl_0 ?_
    refine Go.putL 91 rfl dX6_init_88 fp_X6_56 rfl (by decide) (by decide +kernel) (fun _ => rfl) (Go.stG S14 e14 ?_)
    have z14 : Zr S14 41 := by rw [e14]; exact z13.L (by omega)
    refine Go.aload_n 0 92 rfl dX6_init_91 rfl ?_
    refine Go.lconst (1 : Int64) 93 rfl dX6_init_92 cl_1 ?_
    refine Go.putL 96 rfl dX6_init_93 fp_X6_60 rfl (by decide) (by decide +kernel) (fun _ => rfl) (Go.stG S15 e15 ?_)
    have z15 : Zr S15 41 := by rw [e15]; exact z14.L (by omega)
    refine Go.aload_n 0 97 rfl dX6_init_96 rfl ?_
    refine Go.iconst (0 : Int32) 98 rfl dX6_init_97 ci_0 ?_
    refine Go.putI 101 rfl dX6_init_98 fp_X6_63 rfl (by decide) (by decide +kernel) (fun _ => rfl) (Go.stG S16 e16 ?_)
    have z16 : Zr S16 41 := by rw [e16]; exact z15.I (by omega)
    refine Go.iconst (0 : Int32) 102 rfl dX6_init_101 ci_0 ?_
    refine Go.istore_n 103 [(1, .int (0 : Int32)), (0, .ref 0)] rfl dX6_init_102 (by decide) rfl ?_
    refine Go.iload_n 0 104 rfl dX6_init_103 rfl ?_
    refine Go.bipush (6 : Int32) 106 rfl dX6_init_104 cb_6 ?_
    refine Go.icmp_ge 130 109 rfl dX6_init_106 rfl (fun h => absurd h (show ¬ (6 : Int32) ≤ (0 : Int32) by decide)) (fun _ => ?_)
    refine Go.aload_n 1 110 rfl dX6_init_109 rfl ?_
    have q0_1 : S1.2.2 0 0 = some 1 := by rw [e1, stR_at3, if_pos rfl, if_pos rfl]
    have q0_2 : S2.2.2 0 0 = some 1 := by rw [e2, stR_at3, if_pos rfl, if_neg (by decide)]; exact q0_1
    have q0_3 : S3.2.2 0 0 = some 1 := by rw [e3, stR_at3, if_pos rfl, if_neg (by decide)]; exact q0_2
    have q0_4 : S4.2.2 0 0 = some 1 := by rw [e4, stR_at3, if_pos rfl, if_neg (by decide)]; exact q0_3
    have q0_5 : S5.2.2 0 0 = some 1 := by rw [e5, matI_r (by decide)]; exact q0_4
    have q0_6 : S6.2.2 0 0 = some 1 := by rw [e6, stR_at3, if_pos rfl, if_neg (by decide)]; exact q0_5
    have q0_7 : S7.2.2 0 0 = some 1 := by rw [e7, parI_r (by decide)]; exact q0_6
    have q0_8 : S8.2.2 0 0 = some 1 := by rw [e8, stR_at3, if_pos rfl, if_neg (by decide)]; exact q0_7
    have q0_9 : S9.2.2 0 0 = some 1 := by rw [e9, libI_r (by decide) (by decide)]; exact q0_8
    have q0_10 : S10.2.2 0 0 = some 1 := by rw [e10, stR_at3, if_pos rfl, if_neg (by decide)]; exact q0_9
    have q0_11 : S11.2.2 0 0 = some 1 := by rw [e11, libI_r (by decide) (by decide)]; exact q0_10
    have q0_12 : S12.2.2 0 0 = some 1 := by rw [e12, stR_at3, if_pos rfl, if_neg (by decide)]; exact q0_11
    have q0_13 : S13.2.2 0 0 = some 1 := by rw [e13, stI_22]; exact q0_12
    have q0_14 : S14.2.2 0 0 = some 1 := by rw [e14, stL_22]; exact q0_13
    have q0_15 : S15.2.2 0 0 = some 1 := by rw [e15, stL_22]; exact q0_14
    have q0_16 : S16.2.2 0 0 = some 1 := by rw [e16, stI_22]; exact q0_15
    refine Go.getR (k' := 1) 113 rfl dX6_init_110 fl_X6_11 rfl (by decide) (by decide +kernel) q0_16 ?_
    refine Go.iload_n 0 114 rfl dX6_init_113 rfl ?_
    refine Go.newO 117 42 41 3048 rfl rfl rfl rfl dX6_init_114 nw_X6_9 (by decide +kernel) (by decide) z16 (by decide) (by decide) ?_
    have y99 : Zr S16 42 := z16.up (by omega)
    refine Go.dup 118 rfl dX6_init_117 rfl ?_
    refine Go.bipush (40 : Int32) 120 rfl dX6_init_118 cb_40 ?_
    refine Go.callI 123 43 42 3088 [.int (40 : Int32)] [.ref 41, .int (0 : Int32), .ref 1] rfl rfl rfl rfl dX6_init_120 (K_X4 (N := 40) (by decide +kernel) (by decide +kernel) rfl (by decide) (by decide) (by decide) y99) cc_X6_66 ⟨by decide, by decide⟩ ⟨by decide, by decide⟩ rfl (Nat.le_of_ble_eq_true rfl) (Go.stG S17 e17 ?_)
    have z17 : Zr S17 43 := by rw [e17]; exact rowI_z (y99.up (by omega)) (by omega)
    refine Go.aastQ (t0 := 2) (ci := 3) (r := (RX4, TX4, 2)) (gC G).2.2.1 124 rfl dX6_init_123 (by decide) (by decide) rfl (fun _ => am_cE_rows (by decide +kernel)) rfl (by decide +kernel) (by decide +kernel) (Go.stG S18 e18 ?_)
    have z18 : Zr S18 43 := by rw [e18]; exact z17.R (by omega)
    refine Go.iinc 0 127 (1 : Int32) [(1, .int (1 : Int32)), (0, .ref 0)] rfl dX6_init_124 rfl (by decide) (by decide) rfl ?_
    refine Go.goto 103 dX6_init_127 rfl ?_
    refine Go.iload_n 0 104 rfl dX6_init_103 rfl ?_
    refine Go.bipush (6 : Int32) 106 rfl dX6_init_104 cb_6 ?_
    refine Go.icmp_ge 130 109 rfl dX6_init_106 rfl (fun h => absurd h (show ¬ (6 : Int32) ≤ (1 : Int32) by decide)) (fun _ => ?_)
    refine Go.aload_n 1 110 rfl dX6_init_109 rfl ?_
    have q0_17 : S17.2.2 0 0 = some 1 := by rw [e17, rowI_r (by decide)]; exact q0_16
    have q0_18 : S18.2.2 0 0 = some 1 := by rw [e18, stR_ne (by decide)]; exact q0_17
    refine Go.getR (k' := 1) 113 rfl dX6_init_110 fl_X6_11 rfl (by decide) (by decide +kernel) q0_18 ?_
    refine Go.iload_n 0 114 rfl dX6_init_113 rfl ?_
    refine Go.newO 117 44 43 3090 rfl rfl rfl rfl dX6_init_114 nw_X6_9 (by decide +kernel) (by decide) z18 (by decide) (by decide) ?_
    have y117 : Zr S18 44 := z18.up (by omega)
    refine Go.dup 118 rfl dX6_init_117 rfl ?_
    refine Go.bipush (40 : Int32) 120 rfl dX6_init_118 cb_40 ?_
    refine Go.callI 123 45 44 3130 [.int (40 : Int32)] [.ref 43, .int (1 : Int32), .ref 1] rfl rfl rfl rfl dX6_init_120 (K_X4 (N := 40) (by decide +kernel) (by decide +kernel) rfl (by decide) (by decide) (by decide) y117) cc_X6_66 ⟨by decide, by decide⟩ ⟨by decide, by decide⟩ rfl (Nat.le_of_ble_eq_true rfl) (Go.stG S19 e19 ?_)
    have z19 : Zr S19 45 := by rw [e19]; exact rowI_z (y117.up (by omega)) (by omega)
    refine Go.aastQ (t0 := 2) (ci := 3) (r := (RX4, TX4, 2)) (gC G).2.2.1 124 rfl dX6_init_123 (by decide) (by decide) rfl (fun _ => am_cE_rows (by decide +kernel)) rfl (by decide +kernel) (by decide +kernel) (Go.stG S20 e20 ?_)
    have z20 : Zr S20 45 := by rw [e20]; exact z19.R (by omega)
    refine Go.iinc 0 127 (2 : Int32) [(1, .int (2 : Int32)), (0, .ref 0)] rfl dX6_init_124 rfl (by decide) (by decide) rfl ?_
    refine Go.goto 103 dX6_init_127 rfl ?_
    refine Go.iload_n 0 104 rfl dX6_init_103 rfl ?_
    refine Go.bipush (6 : Int32) 106 rfl dX6_init_104 cb_6 ?_
    refine Go.icmp_ge 130 109 rfl dX6_init_106 rfl (fun h => absurd h (show ¬ (6 : Int32) ≤ (2 : Int32) by decide)) (fun _ => ?_)
    refine Go.aload_n 1 110 rfl dX6_init_109 rfl ?_
    have q0_19 : S19.2.2 0 0 = some 1 := by rw [e19, rowI_r (by decide)]; exact q0_18
    have q0_20 : S20.2.2 0 0 = some 1 := by rw [e20, stR_ne (by decide)]; exact q0_19
    refine Go.getR (k' := 1) 113 rfl dX6_init_110 fl_X6_11 rfl (by decide) (by decide +kernel) q0_20 ?_
    refine Go.iload_n 0 114 rfl dX6_init_113 rfl ?_
    refine Go.newO 117 46 45 3132 rfl rfl rfl rfl dX6_init_114 nw_X6_9 (by decide +kernel) (by decide) z20 (by decide) (by decide) ?_
    have y135 : Zr S20 46 := z20.up (by omega)
    refine Go.dup 118 rfl dX6_init_117 rfl ?_
    refine Go.bipush (40 : Int32) 120 rfl dX6_init_118 cb_40 ?_
    refine Go.callI 123 47 46 3172 [.int (40 : Int32)] [.ref 45, .int (2 : Int32), .ref 1] rfl rfl rfl rfl dX6_init_120 (K_X4 (N := 40) (by decide +kernel) (by decide +kernel) rfl (by decide) (by decide) (by decide) y135) cc_X6_66 ⟨by decide, by decide⟩ ⟨by decide, by decide⟩ rfl (Nat.le_of_ble_eq_true rfl) (Go.stG S21 e21 ?_)
    have z21 : Zr S21 47 := by rw [e21]; exact rowI_z (y135.up (by omega)) (by omega)
    refine Go.aastQ (t0 := 2) (ci := 3) (r := (RX4, TX4, 2)) (gC G).2.2.1 124 rfl dX6_init_123 (by decide) (by decide) rfl (fun _ => am_cE_rows (by decide +kernel)) rfl (by decide +kernel) (by decide +kernel) (Go.stG S22 e22 ?_)
    have z22 : Zr S22 47 := by rw [e22]; exact z21.R (by omega)
    refine Go.iinc 0 127 (3 : Int32) [(1, .int (3 : Int32)), (0, .ref 0)] rfl dX6_init_124 rfl (by decide) (by decide) rfl ?_
    refine Go.goto 103 dX6_init_127 rfl ?_
    refine Go.iload_n 0 104 rfl dX6_init_103 rfl ?_
    refine Go.bipush (6 : Int32) 106 rfl dX6_init_104 cb_6 ?_
    refine Go.icmp_ge 130 109 rfl dX6_init_106 rfl (fun h => absurd h (show ¬ (6 : Int32) ≤ (3 : Int32) by decide)) (fun _ => ?_)
    refine Go.aload_n 1 110 rfl dX6_init_109 rfl ?_
    have q0_21 : S21.2.2 0 0 = some 1 := by rw [e21, rowI_r (by decide)]; exact q0_20
    have q0_22 : S22.2.2 0 0 = some 1 := by rw [e22, stR_ne (by decide)]; exact q0_21
    refine Go.getR (k' := 1) 113 rfl dX6_init_110 fl_X6_11 rfl (by decide) (by decide +kernel) q0_22 ?_
    refine Go.iload_n 0 114 rfl dX6_init_113 rfl ?_
    refine Go.newO 117 48 47 3174 rfl rfl rfl rfl dX6_init_114 nw_X6_9 (by decide +kernel) (by decide) z22 (by decide) (by decide) ?_
    have y153 : Zr S22 48 := z22.up (by omega)
    refine Go.dup 118 rfl dX6_init_117 rfl ?_
    refine Go.bipush (40 : Int32) 120 rfl dX6_init_118 cb_40 ?_
    refine Go.callI 123 49 48 3214 [.int (40 : Int32)] [.ref 47, .int (3 : Int32), .ref 1] rfl rfl rfl rfl dX6_init_120 (K_X4 (N := 40) (by decide +kernel) (by decide +kernel) rfl (by decide) (by decide) (by decide) y153) cc_X6_66 ⟨by decide, by decide⟩ ⟨by decide, by decide⟩ rfl (Nat.le_of_ble_eq_true rfl) (Go.stG S23 e23 ?_)
    have z23 : Zr S23 49 := by rw [e23]; exact rowI_z (y153.up (by omega)) (by omega)
    refine Go.aastQ (t0 := 2) (ci := 3) (r := (RX4, TX4, 2)) (gC G).2.2.1 124 rfl dX6_init_123 (by decide) (by decide) rfl (fun _ => am_cE_rows (by decide +kernel)) rfl (by decide +kernel) (by decide +kernel) (Go.stG S24 e24 ?_)
    have z24 : Zr S24 49 := by rw [e24]; exact z23.R (by omega)
    refine Go.iinc 0 127 (4 : Int32) [(1, .int (4 : Int32)), (0, .ref 0)] rfl dX6_init_124 rfl (by decide) (by decide) rfl ?_
    refine Go.goto 103 dX6_init_127 rfl ?_
    refine Go.iload_n 0 104 rfl dX6_init_103 rfl ?_
    refine Go.bipush (6 : Int32) 106 rfl dX6_init_104 cb_6 ?_
    refine Go.icmp_ge 130 109 rfl dX6_init_106 rfl (fun h => absurd h (show ¬ (6 : Int32) ≤ (4 : Int32) by decide)) (fun _ => ?_)
    refine Go.aload_n 1 110 rfl dX6_init_109 rfl ?_
    have q0_23 : S23.2.2 0 0 = some 1 := by rw [e23, rowI_r (by decide)]; exact q0_22
    have q0_24 : S24.2.2 0 0 = some 1 := by rw [e24, stR_ne (by decide)]; exact q0_23
    refine Go.getR (k' := 1) 113 rfl dX6_init_110 fl_X6_11 rfl (by decide) (by decide +kernel) q0_24 ?_
    refine Go.iload_n 0 114 rfl dX6_init_113 rfl ?_
    refine Go.newO 117 50 49 3216 rfl rfl rfl rfl dX6_init_114 nw_X6_9 (by decide +kernel) (by decide) z24 (by decide) (by decide) ?_
    have y171 : Zr S24 50 := z24.up (by omega)
    refine Go.dup 118 rfl dX6_init_117 rfl ?_
    refine Go.bipush (40 : Int32) 120 rfl dX6_init_118 cb_40 ?_
    refine Go.callI 123 51 50 3256 [.int (40 : Int32)] [.ref 49, .int (4 : Int32), .ref 1] rfl rfl rfl rfl dX6_init_120 (K_X4 (N := 40) (by decide +kernel) (by decide +kernel) rfl (by decide) (by decide) (by decide) y171) cc_X6_66 ⟨by decide, by decide⟩ ⟨by decide, by decide⟩ rfl (Nat.le_of_ble_eq_true rfl) (Go.stG S25 e25 ?_)
    have z25 : Zr S25 51 := by rw [e25]; exact rowI_z (y171.up (by omega)) (by omega)
    refine Go.aastQ (t0 := 2) (ci := 3) (r := (RX4, TX4, 2)) (gC G).2.2.1 124 rfl dX6_init_123 (by decide) (by decide) rfl (fun _ => am_cE_rows (by decide +kernel)) rfl (by decide +kernel) (by decide +kernel) (Go.stG S26 e26 ?_)
    have z26 : Zr S26 51 := by rw [e26]; exact z25.R (by omega)
    refine Go.iinc 0 127 (5 : Int32) [(1, .int (5 : Int32)), (0, .ref 0)] rfl dX6_init_124 rfl (by decide) (by decide) rfl ?_
    refine Go.goto 103 dX6_init_127 rfl ?_
    refine Go.iload_n 0 104 rfl dX6_init_103 rfl ?_
    refine Go.bipush (6 : Int32) 106 rfl dX6_init_104 cb_6 ?_
    refine Go.icmp_ge 130 109 rfl dX6_init_106 rfl (fun h => absurd h (show ¬ (6 : Int32) ≤ (5 : Int32) by decide)) (fun _ => ?_)
    refine Go.aload_n 1 110 rfl dX6_init_109 rfl ?_
    have q0_25 : S25.2.2 0 0 = some 1 := by rw [e25, rowI_r (by decide)]; exact q0_24
    have q0_26 : S26.2.2 0 0 = some 1 := by rw [e26, stR_ne (by decide)]; exact q0_25
    refine Go.getR (k' := 1) 113 rfl dX6_init_110 fl_X6_11 rfl (by decide) (by decide +kernel) q0_26 ?_
    refine Go.iload_n 0 114 rfl dX6_init_113 rfl ?_
    refine Go.newO 117 52 51 3258 rfl rfl rfl rfl dX6_init_114 nw_X6_9 (by decide +kernel) (by decide) z26 (by decide) (by decide) ?_
    have y189 : Zr S26 52 := z26.up (by omega)
    refine Go.dup 118 rfl dX6_init_117 rfl ?_
    refine Go.bipush (40 : Int32) 120 rfl dX6_init_118 cb_40 ?_
    refine Go.callI 123 53 52 3298 [.int (40 : Int32)] [.ref 51, .int (5 : Int32), .ref 1] rfl rfl rfl rfl dX6_init_120 (K_X4 (N := 40) (by decide +kernel) (by decide +kernel) rfl (by decide) (by decide) (by decide) y189) cc_X6_66 ⟨by decide, by decide⟩ ⟨by decide, by decide⟩ rfl (Nat.le_of_ble_eq_true rfl) (Go.stG S27 e27 ?_)
    have z27 : Zr S27 53 := by rw [e27]; exact rowI_z (y189.up (by omega)) (by omega)
    refine Go.aastQ (t0 := 2) (ci := 3) (r := (RX4, TX4, 2)) (gC G).2.2.1 124 rfl dX6_init_123 (by decide) (by decide) rfl (fun _ => am_cE_rows (by decide +kernel)) rfl (by decide +kernel) (by decide +kernel) (Go.stG S28 e28 ?_)
    have z28 : Zr S28 53 := by rw [e28]; exact z27.R (by omega)
    refine Go.iinc 0 127 (6 : Int32) [(1, .int (6 : Int32)), (0, .ref 0)] rfl dX6_init_124 rfl (by decide) (by decide) rfl ?_
    refine Go.goto 103 dX6_init_127 rfl ?_
    refine Go.iload_n 0 104 rfl dX6_init_103 rfl ?_
    refine Go.bipush (6 : Int32) 106 rfl dX6_init_104 cb_6 ?_
    refine Go.icmp_ge 130 109 rfl dX6_init_106 rfl (fun _ => ?_) (fun h => absurd (show (6 : Int32) ≤ (6 : Int32) by decide) h)
    refine Go.iconst (0 : Int32) 131 rfl dX6_init_130 ci_0 ?_
    refine Go.istore_n 132 [(1, .int (0 : Int32)), (0, .ref 0)] rfl dX6_init_131 (by decide) rfl ?_
    refine Go.iload_n 0 133 rfl dX6_init_132 rfl ?_
    refine Go.iconst (4 : Int32) 134 rfl dX6_init_133 ci_4 ?_
    refine Go.icmp_ge 158 137 rfl dX6_init_134 rfl (fun h => absurd h (show ¬ (4 : Int32) ≤ (0 : Int32) by decide)) (fun _ => ?_)
    refine Go.aload_n 1 138 rfl dX6_init_137 rfl ?_
    have q1_2 : S2.2.2 0 1 = some 2 := by rw [e2, stR_at3, if_pos rfl, if_pos rfl]
    have q1_3 : S3.2.2 0 1 = some 2 := by rw [e3, stR_at3, if_pos rfl, if_neg (by decide)]; exact q1_2
    have q1_4 : S4.2.2 0 1 = some 2 := by rw [e4, stR_at3, if_pos rfl, if_neg (by decide)]; exact q1_3
    have q1_5 : S5.2.2 0 1 = some 2 := by rw [e5, matI_r (by decide)]; exact q1_4
    have q1_6 : S6.2.2 0 1 = some 2 := by rw [e6, stR_at3, if_pos rfl, if_neg (by decide)]; exact q1_5
    have q1_7 : S7.2.2 0 1 = some 2 := by rw [e7, parI_r (by decide)]; exact q1_6
    have q1_8 : S8.2.2 0 1 = some 2 := by rw [e8, stR_at3, if_pos rfl, if_neg (by decide)]; exact q1_7
    have q1_9 : S9.2.2 0 1 = some 2 := by rw [e9, libI_r (by decide) (by decide)]; exact q1_8
    have q1_10 : S10.2.2 0 1 = some 2 := by rw [e10, stR_at3, if_pos rfl, if_neg (by decide)]; exact q1_9
    have q1_11 : S11.2.2 0 1 = some 2 := by rw [e11, libI_r (by decide) (by decide)]; exact q1_10
    have q1_12 : S12.2.2 0 1 = some 2 := by rw [e12, stR_at3, if_pos rfl, if_neg (by decide)]; exact q1_11
    have q1_13 : S13.2.2 0 1 = some 2 := by rw [e13, stI_22]; exact q1_12
    have q1_14 : S14.2.2 0 1 = some 2 := by rw [e14, stL_22]; exact q1_13
    have q1_15 : S15.2.2 0 1 = some 2 := by rw [e15, stL_22]; exact q1_14
    have q1_16 : S16.2.2 0 1 = some 2 := by rw [e16, stI_22]; exact q1_15
    have q1_17 : S17.2.2 0 1 = some 2 := by rw [e17, rowI_r (by decide)]; exact q1_16
    have q1_18 : S18.2.2 0 1 = some 2 := by rw [e18, stR_ne (by decide)]; exact q1_17
    have q1_19 : S19.2.2 0 1 = some 2 := by rw [e19, rowI_r (by decide)]; exact q1_18
    have q1_20 : S20.2.2 0 1 = some 2 := by rw [e20, stR_ne (by decide)]; exact q1_19
    have q1_21 : S21.2.2 0 1 = some 2 := by rw [e21, rowI_r (by decide)]; exact q1_20
    have q1_22 : S22.2.2 0 1 = some 2 := by rw [e22, stR_ne (by decide)]; exact q1_21
    have q1_23 : S23.2.2 0 1 = some 2 := by rw [e23, rowI_r (by decide)]; exact q1_22
    have q1_24 : S24.2.2 0 1 = some 2 := by rw [e24, stR_ne (by decide)]; exact q1_23
    have q1_25 : S25.2.2 0 1 = some 2 := by rw [e25, rowI_r (by decide)]; exact q1_24
    have q1_26 : S26.2.2 0 1 = some 2 := by rw [e26, stR_ne (by decide)]; exact q1_25
    have q1_27 : S27.2.2 0 1 = some 2 := by rw [e27, rowI_r (by decide)]; exact q1_26
    have q1_28 : S28.2.2 0 1 = some 2 := by rw [e28, stR_ne (by decide)]; exact q1_27
    refine Go.getR (k' := 2) 141 rfl dX6_init_138 fl_X6_15 rfl (by decide) (by decide +kernel) q1_28 ?_
    refine Go.iload_n 0 142 rfl dX6_init_141 rfl ?_
    refine Go.newO 145 54 53 3300 rfl rfl rfl rfl dX6_init_142 nw_X6_9 (by decide +kernel) (by decide) z28 (by decide) (by decide) ?_
    have y237 : Zr S28 54 := z28.up (by omega)
    refine Go.dup 146 rfl dX6_init_145 rfl ?_
    refine Go.bipush (80 : Int32) 148 rfl dX6_init_146 cb_80 ?_
    refine Go.callI 151 55 54 3380 [.int (80 : Int32)] [.ref 53, .int (0 : Int32), .ref 2] rfl rfl rfl rfl dX6_init_148 (K_X4 (N := 80) (by decide +kernel) (by decide +kernel) rfl (by decide) (by decide) (by decide) y237) cc_X6_66 ⟨by decide, by decide⟩ ⟨by decide, by decide⟩ rfl (Nat.le_of_ble_eq_true rfl) (Go.stG S29 e29 ?_)
    have z29 : Zr S29 55 := by rw [e29]; exact rowI_z (y237.up (by omega)) (by omega)
    refine Go.aastQ (t0 := 2) (ci := 3) (r := (RX4, TX4, 2)) (gC G).2.2.1 152 rfl dX6_init_151 (by decide) (by decide) rfl (fun _ => am_cE_rows (by decide +kernel)) rfl (by decide +kernel) (by decide +kernel) (Go.stG S30 e30 ?_)
    have z30 : Zr S30 55 := by rw [e30]; exact z29.R (by omega)
    refine Go.iinc 0 155 (1 : Int32) [(1, .int (1 : Int32)), (0, .ref 0)] rfl dX6_init_152 rfl (by decide) (by decide) rfl ?_
    refine Go.goto 132 dX6_init_155 rfl ?_
    refine Go.iload_n 0 133 rfl dX6_init_132 rfl ?_
    refine Go.iconst (4 : Int32) 134 rfl dX6_init_133 ci_4 ?_
    refine Go.icmp_ge 158 137 rfl dX6_init_134 rfl (fun h => absurd h (show ¬ (4 : Int32) ≤ (1 : Int32) by decide)) (fun _ => ?_)
    refine Go.aload_n 1 138 rfl dX6_init_137 rfl ?_
    have q1_29 : S29.2.2 0 1 = some 2 := by rw [e29, rowI_r (by decide)]; exact q1_28
    have q1_30 : S30.2.2 0 1 = some 2 := by rw [e30, stR_ne (by decide)]; exact q1_29
    refine Go.getR (k' := 2) 141 rfl dX6_init_138 fl_X6_15 rfl (by decide) (by decide +kernel) q1_30 ?_
    refine Go.iload_n 0 142 rfl dX6_init_141 rfl ?_
    refine Go.newO 145 56 55 3382 rfl rfl rfl rfl dX6_init_142 nw_X6_9 (by decide +kernel) (by decide) z30 (by decide) (by decide) ?_
    have y255 : Zr S30 56 := z30.up (by omega)
    refine Go.dup 146 rfl dX6_init_145 rfl ?_
    refine Go.bipush (80 : Int32) 148 rfl dX6_init_146 cb_80 ?_
    refine Go.callI 151 57 56 3462 [.int (80 : Int32)] [.ref 55, .int (1 : Int32), .ref 2] rfl rfl rfl rfl dX6_init_148 (K_X4 (N := 80) (by decide +kernel) (by decide +kernel) rfl (by decide) (by decide) (by decide) y255) cc_X6_66 ⟨by decide, by decide⟩ ⟨by decide, by decide⟩ rfl (Nat.le_of_ble_eq_true rfl) (Go.stG S31 e31 ?_)
    have z31 : Zr S31 57 := by rw [e31]; exact rowI_z (y255.up (by omega)) (by omega)
    refine Go.aastQ (t0 := 2) (ci := 3) (r := (RX4, TX4, 2)) (gC G).2.2.1 152 rfl dX6_init_151 (by decide) (by decide) rfl (fun _ => am_cE_rows (by decide +kernel)) rfl (by decide +kernel) (by decide +kernel) (Go.stG S32 e32 ?_)
    have z32 : Zr S32 57 := by rw [e32]; exact z31.R (by omega)
    refine Go.iinc 0 155 (2 : Int32) [(1, .int (2 : Int32)), (0, .ref 0)] rfl dX6_init_152 rfl (by decide) (by decide) rfl ?_
    refine Go.goto 132 dX6_init_155 rfl ?_
    refine Go.iload_n 0 133 rfl dX6_init_132 rfl ?_
    refine Go.iconst (4 : Int32) 134 rfl dX6_init_133 ci_4 ?_
    refine Go.icmp_ge 158 137 rfl dX6_init_134 rfl (fun h => absurd h (show ¬ (4 : Int32) ≤ (2 : Int32) by decide)) (fun _ => ?_)
    refine Go.aload_n 1 138 rfl dX6_init_137 rfl ?_
    have q1_31 : S31.2.2 0 1 = some 2 := by rw [e31, rowI_r (by decide)]; exact q1_30
    have q1_32 : S32.2.2 0 1 = some 2 := by rw [e32, stR_ne (by decide)]; exact q1_31
    refine Go.getR (k' := 2) 141 rfl dX6_init_138 fl_X6_15 rfl (by decide) (by decide +kernel) q1_32 ?_
    refine Go.iload_n 0 142 rfl dX6_init_141 rfl ?_
    refine Go.newO 145 58 57 3464 rfl rfl rfl rfl dX6_init_142 nw_X6_9 (by decide +kernel) (by decide) z32 (by decide) (by decide) ?_
    have y273 : Zr S32 58 := z32.up (by omega)
    refine Go.dup 146 rfl dX6_init_145 rfl ?_
    refine Go.bipush (80 : Int32) 148 rfl dX6_init_146 cb_80 ?_
    refine Go.callI 151 59 58 3544 [.int (80 : Int32)] [.ref 57, .int (2 : Int32), .ref 2] rfl rfl rfl rfl dX6_init_148 (K_X4 (N := 80) (by decide +kernel) (by decide +kernel) rfl (by decide) (by decide) (by decide) y273) cc_X6_66 ⟨by decide, by decide⟩ ⟨by decide, by decide⟩ rfl (Nat.le_of_ble_eq_true rfl) (Go.stG S33 e33 ?_)
    have z33 : Zr S33 59 := by rw [e33]; exact rowI_z (y273.up (by omega)) (by omega)
    refine Go.aastQ (t0 := 2) (ci := 3) (r := (RX4, TX4, 2)) (gC G).2.2.1 152 rfl dX6_init_151 (by decide) (by decide) rfl (fun _ => am_cE_rows (by decide +kernel)) rfl (by decide +kernel) (by decide +kernel) (Go.stG S34 e34 ?_)
    have z34 : Zr S34 59 := by rw [e34]; exact z33.R (by omega)
    refine Go.iinc 0 155 (3 : Int32) [(1, .int (3 : Int32)), (0, .ref 0)] rfl dX6_init_152 rfl (by decide) (by decide) rfl ?_
    refine Go.goto 132 dX6_init_155 rfl ?_
    refine Go.iload_n 0 133 rfl dX6_init_132 rfl ?_
    refine Go.iconst (4 : Int32) 134 rfl dX6_init_133 ci_4 ?_
    refine Go.icmp_ge 158 137 rfl dX6_init_134 rfl (fun h => absurd h (show ¬ (4 : Int32) ≤ (3 : Int32) by decide)) (fun _ => ?_)
    refine Go.aload_n 1 138 rfl dX6_init_137 rfl ?_
    have q1_33 : S33.2.2 0 1 = some 2 := by rw [e33, rowI_r (by decide)]; exact q1_32
    have q1_34 : S34.2.2 0 1 = some 2 := by rw [e34, stR_ne (by decide)]; exact q1_33
    refine Go.getR (k' := 2) 141 rfl dX6_init_138 fl_X6_15 rfl (by decide) (by decide +kernel) q1_34 ?_
    refine Go.iload_n 0 142 rfl dX6_init_141 rfl ?_
    refine Go.newO 145 60 59 3546 rfl rfl rfl rfl dX6_init_142 nw_X6_9 (by decide +kernel) (by decide) z34 (by decide) (by decide) ?_
    have y291 : Zr S34 60 := z34.up (by omega)
    refine Go.dup 146 rfl dX6_init_145 rfl ?_
    refine Go.bipush (80 : Int32) 148 rfl dX6_init_146 cb_80 ?_
    refine Go.callI 151 61 60 3626 [.int (80 : Int32)] [.ref 59, .int (3 : Int32), .ref 2] rfl rfl rfl rfl dX6_init_148 (K_X4 (N := 80) (by decide +kernel) (by decide +kernel) rfl (by decide) (by decide) (by decide) y291) cc_X6_66 ⟨by decide, by decide⟩ ⟨by decide, by decide⟩ rfl (Nat.le_of_ble_eq_true rfl) (Go.stG S35 e35 ?_)
    have z35 : Zr S35 61 := by rw [e35]; exact rowI_z (y291.up (by omega)) (by omega)
    refine Go.aastQ (t0 := 2) (ci := 3) (r := (RX4, TX4, 2)) (gC G).2.2.1 152 rfl dX6_init_151 (by decide) (by decide) rfl (fun _ => am_cE_rows (by decide +kernel)) rfl (by decide +kernel) (by decide +kernel) (Go.stG S36 e36 ?_)
    have z36 : Zr S36 61 := by rw [e36]; exact z35.R (by omega)
    refine Go.iinc 0 155 (4 : Int32) [(1, .int (4 : Int32)), (0, .ref 0)] rfl dX6_init_152 rfl (by decide) (by decide) rfl ?_
    refine Go.goto 132 dX6_init_155 rfl ?_
    refine Go.iload_n 0 133 rfl dX6_init_132 rfl ?_
    refine Go.iconst (4 : Int32) 134 rfl dX6_init_133 ci_4 ?_
    refine Go.icmp_ge 158 137 rfl dX6_init_134 rfl (fun _ => ?_) (fun h => absurd (show (4 : Int32) ≤ (4 : Int32) by decide) h)
    refine Go.iconst (0 : Int32) 159 rfl dX6_init_158 ci_0 ?_
    refine Go.istore_n 160 [(1, .int (0 : Int32)), (0, .ref 0)] rfl dX6_init_159 (by decide) rfl ?_
    refine Go.iload_n 0 161 rfl dX6_init_160 rfl ?_
    refine Go.iconst (3 : Int32) 162 rfl dX6_init_161 ci_3 ?_
    refine Go.icmp_ge 184 165 rfl dX6_init_162 rfl (fun h => absurd h (show ¬ (3 : Int32) ≤ (0 : Int32) by decide)) (fun _ => ?_)
    refine Go.aload_n 1 166 rfl dX6_init_165 rfl ?_
    have q2_3 : S3.2.2 0 2 = some 3 := by rw [e3, stR_at3, if_pos rfl, if_pos rfl]
    have q2_4 : S4.2.2 0 2 = some 3 := by rw [e4, stR_at3, if_pos rfl, if_neg (by decide)]; exact q2_3
    have q2_5 : S5.2.2 0 2 = some 3 := by rw [e5, matI_r (by decide)]; exact q2_4
    have q2_6 : S6.2.2 0 2 = some 3 := by rw [e6, stR_at3, if_pos rfl, if_neg (by decide)]; exact q2_5
    have q2_7 : S7.2.2 0 2 = some 3 := by rw [e7, parI_r (by decide)]; exact q2_6
    have q2_8 : S8.2.2 0 2 = some 3 := by rw [e8, stR_at3, if_pos rfl, if_neg (by decide)]; exact q2_7
    have q2_9 : S9.2.2 0 2 = some 3 := by rw [e9, libI_r (by decide) (by decide)]; exact q2_8
    have q2_10 : S10.2.2 0 2 = some 3 := by rw [e10, stR_at3, if_pos rfl, if_neg (by decide)]; exact q2_9
    have q2_11 : S11.2.2 0 2 = some 3 := by rw [e11, libI_r (by decide) (by decide)]; exact q2_10
    have q2_12 : S12.2.2 0 2 = some 3 := by rw [e12, stR_at3, if_pos rfl, if_neg (by decide)]; exact q2_11
    have q2_13 : S13.2.2 0 2 = some 3 := by rw [e13, stI_22]; exact q2_12
    have q2_14 : S14.2.2 0 2 = some 3 := by rw [e14, stL_22]; exact q2_13
    have q2_15 : S15.2.2 0 2 = some 3 := by rw [e15, stL_22]; exact q2_14
    have q2_16 : S16.2.2 0 2 = some 3 := by rw [e16, stI_22]; exact q2_15
    have q2_17 : S17.2.2 0 2 = some 3 := by rw [e17, rowI_r (by decide)]; exact q2_16
    have q2_18 : S18.2.2 0 2 = some 3 := by rw [e18, stR_ne (by decide)]; exact q2_17
    have q2_19 : S19.2.2 0 2 = some 3 := by rw [e19, rowI_r (by decide)]; exact q2_18
    have q2_20 : S20.2.2 0 2 = some 3 := by rw [e20, stR_ne (by decide)]; exact q2_19
    have q2_21 : S21.2.2 0 2 = some 3 := by rw [e21, rowI_r (by decide)]; exact q2_20
    have q2_22 : S22.2.2 0 2 = some 3 := by rw [e22, stR_ne (by decide)]; exact q2_21
    have q2_23 : S23.2.2 0 2 = some 3 := by rw [e23, rowI_r (by decide)]; exact q2_22
    have q2_24 : S24.2.2 0 2 = some 3 := by rw [e24, stR_ne (by decide)]; exact q2_23
    have q2_25 : S25.2.2 0 2 = some 3 := by rw [e25, rowI_r (by decide)]; exact q2_24
    have q2_26 : S26.2.2 0 2 = some 3 := by rw [e26, stR_ne (by decide)]; exact q2_25
    have q2_27 : S27.2.2 0 2 = some 3 := by rw [e27, rowI_r (by decide)]; exact q2_26
    have q2_28 : S28.2.2 0 2 = some 3 := by rw [e28, stR_ne (by decide)]; exact q2_27
    have q2_29 : S29.2.2 0 2 = some 3 := by rw [e29, rowI_r (by decide)]; exact q2_28
    have q2_30 : S30.2.2 0 2 = some 3 := by rw [e30, stR_ne (by decide)]; exact q2_29
    have q2_31 : S31.2.2 0 2 = some 3 := by rw [e31, rowI_r (by decide)]; exact q2_30
    have q2_32 : S32.2.2 0 2 = some 3 := by rw [e32, stR_ne (by decide)]; exact q2_31
    have q2_33 : S33.2.2 0 2 = some 3 := by rw [e33, rowI_r (by decide)]; exact q2_32
    have q2_34 : S34.2.2 0 2 = some 3 := by rw [e34, stR_ne (by decide)]; exact q2_33
    have q2_35 : S35.2.2 0 2 = some 3 := by rw [e35, rowI_r (by decide)]; exact q2_34
    have q2_36 : S36.2.2 0 2 = some 3 := by rw [e36, stR_ne (by decide)]; exact q2_35
    refine Go.getR (k' := 3) 169 rfl dX6_init_166 fl_X6_20 rfl (by decide) (by decide +kernel) q2_36 ?_
    refine Go.iload_n 0 170 rfl dX6_init_169 rfl ?_
    refine Go.newO 173 62 61 3633 rfl rfl rfl rfl dX6_init_170 nw_X6_18 (by decide +kernel) (by decide) z36 (by decide) (by decide) ?_
    have y346 : Zr S36 62 := z36.up (by omega)
    refine Go.dup 174 rfl dX6_init_173 rfl ?_
    refine Go.callI 177 68 67 3981 [] [.ref 61, .int (0 : Int32), .ref 3] rfl rfl rfl rfl dX6_init_174 (K_X5 (by decide +kernel) (by decide +kernel) (by decide +kernel) (by decide +kernel) (by decide +kernel) (by decide +kernel) (by decide +kernel) (by decide) y346) cc_X6_69 ⟨by decide, by decide⟩ ⟨by decide, by decide⟩ rfl (Nat.le_of_ble_eq_true rfl) (Go.stG S37 e37 ?_)
    have z37 : Zr S37 68 := by rw [e37]; exact stdI_z (y346.up (by omega)) (by omega)
    refine Go.aastQ (t0 := 3) (ci := 4) (r := (RX5, TX5, 7)) (gC G).2.2.2 178 rfl dX6_init_177 (by decide) (by decide) rfl (fun _ => am_cE_std (by decide +kernel)) rfl (by decide +kernel) (by decide +kernel) (Go.stG S38 e38 ?_)
    have z38 : Zr S38 68 := by rw [e38]; exact z37.R (by omega)
    refine Go.iinc 0 181 (1 : Int32) [(1, .int (1 : Int32)), (0, .ref 0)] rfl dX6_init_178 rfl (by decide) (by decide) rfl ?_
    refine Go.goto 160 dX6_init_181 rfl ?_
    refine Go.iload_n 0 161 rfl dX6_init_160 rfl ?_
    refine Go.iconst (3 : Int32) 162 rfl dX6_init_161 ci_3 ?_
    refine Go.icmp_ge 184 165 rfl dX6_init_162 rfl (fun h => absurd h (show ¬ (3 : Int32) ≤ (1 : Int32) by decide)) (fun _ => ?_)
    refine Go.aload_n 1 166 rfl dX6_init_165 rfl ?_
    have q2_37 : S37.2.2 0 2 = some 3 := by rw [e37, stdI_r (by decide)]; exact q2_36
    have q2_38 : S38.2.2 0 2 = some 3 := by rw [e38, stR_ne (by decide)]; exact q2_37
    refine Go.getR (k' := 3) 169 rfl dX6_init_166 fl_X6_20 rfl (by decide) (by decide +kernel) q2_38 ?_
    refine Go.iload_n 0 170 rfl dX6_init_169 rfl ?_
    refine Go.newO 173 69 68 3988 rfl rfl rfl rfl dX6_init_170 nw_X6_18 (by decide +kernel) (by decide) z38 (by decide) (by decide) ?_
    have y363 : Zr S38 69 := z38.up (by omega)
    refine Go.dup 174 rfl dX6_init_173 rfl ?_
    refine Go.callI 177 75 74 4336 [] [.ref 68, .int (1 : Int32), .ref 3] rfl rfl rfl rfl dX6_init_174 (K_X5 (by decide +kernel) (by decide +kernel) (by decide +kernel) (by decide +kernel) (by decide +kernel) (by decide +kernel) (by decide +kernel) (by decide) y363) cc_X6_69 ⟨by decide, by decide⟩ ⟨by decide, by decide⟩ rfl (Nat.le_of_ble_eq_true rfl) (Go.stG S39 e39 ?_)
    have z39 : Zr S39 75 := by rw [e39]; exact stdI_z (y363.up (by omega)) (by omega)
    refine Go.aastQ (t0 := 3) (ci := 4) (r := (RX5, TX5, 7)) (gC G).2.2.2 178 rfl dX6_init_177 (by decide) (by decide) rfl (fun _ => am_cE_std (by decide +kernel)) rfl (by decide +kernel) (by decide +kernel) (Go.stG S40 e40 ?_)
    have z40 : Zr S40 75 := by rw [e40]; exact z39.R (by omega)
    refine Go.iinc 0 181 (2 : Int32) [(1, .int (2 : Int32)), (0, .ref 0)] rfl dX6_init_178 rfl (by decide) (by decide) rfl ?_
    refine Go.goto 160 dX6_init_181 rfl ?_
    refine Go.iload_n 0 161 rfl dX6_init_160 rfl ?_
    refine Go.iconst (3 : Int32) 162 rfl dX6_init_161 ci_3 ?_
    refine Go.icmp_ge 184 165 rfl dX6_init_162 rfl (fun h => absurd h (show ¬ (3 : Int32) ≤ (2 : Int32) by decide)) (fun _ => ?_)
    refine Go.aload_n 1 166 rfl dX6_init_165 rfl ?_
    have q2_39 : S39.2.2 0 2 = some 3 := by rw [e39, stdI_r (by decide)]; exact q2_38
    have q2_40 : S40.2.2 0 2 = some 3 := by rw [e40, stR_ne (by decide)]; exact q2_39
    refine Go.getR (k' := 3) 169 rfl dX6_init_166 fl_X6_20 rfl (by decide) (by decide +kernel) q2_40 ?_
    refine Go.iload_n 0 170 rfl dX6_init_169 rfl ?_
    refine Go.newO 173 76 75 4343 rfl rfl rfl rfl dX6_init_170 nw_X6_18 (by decide +kernel) (by decide) z40 (by decide) (by decide) ?_
    have y380 : Zr S40 76 := z40.up (by omega)
    refine Go.dup 174 rfl dX6_init_173 rfl ?_
    refine Go.callI 177 82 81 4691 [] [.ref 75, .int (2 : Int32), .ref 3] rfl rfl rfl rfl dX6_init_174 (K_X5 (by decide +kernel) (by decide +kernel) (by decide +kernel) (by decide +kernel) (by decide +kernel) (by decide +kernel) (by decide +kernel) (by decide) y380) cc_X6_69 ⟨by decide, by decide⟩ ⟨by decide, by decide⟩ rfl (Nat.le_of_ble_eq_true rfl) (Go.stG S41 e41 ?_)
    have z41 : Zr S41 82 := by rw [e41]; exact stdI_z (y380.up (by omega)) (by omega)
    refine Go.aastQ (t0 := 3) (ci := 4) (r := (RX5, TX5, 7)) (gC G).2.2.2 178 rfl dX6_init_177 (by decide) (by decide) rfl (fun _ => am_cE_std (by decide +kernel)) rfl (by decide +kernel) (by decide +kernel) (Go.stG S42 e42 ?_)
    have z42 : Zr S42 82 := by rw [e42]; exact z41.R (by omega)
    refine Go.iinc 0 181 (3 : Int32) [(1, .int (3 : Int32)), (0, .ref 0)] rfl dX6_init_178 rfl (by decide) (by decide) rfl ?_
    refine Go.goto 160 dX6_init_181 rfl ?_
    refine Go.iload_n 0 161 rfl dX6_init_160 rfl ?_
    refine Go.iconst (3 : Int32) 162 rfl dX6_init_161 ci_3 ?_
    refine Go.icmp_ge 184 165 rfl dX6_init_162 rfl (fun _ => ?_) (fun h => absurd (show (3 : Int32) ≤ (3 : Int32) by decide) h)
    exact Go.vret rfl dX6_init_184
  · refine ⟨⟨Or.inl ⟨rfl, rfl⟩, ?_, ?_, ?_, ?_, ?_, ?_, ?_, ?_, ?_⟩, ⟨?_, ?_, ?_, ?_, ?_⟩, ?_, ⟨?_, ?_, ?_, ?_⟩, ?_, ?_⟩
    · rw [e42, stR_ne (by decide), e41, stdI_r (by decide), e40, stR_ne (by decide), e39, stdI_r (by decide), e38, stR_ne (by decide), e37, stdI_r (by decide), e36, stR_ne (by decide), e35, rowI_r (by decide), e34, stR_ne (by decide), e33, rowI_r (by decide), e32, stR_ne (by decide), e31, rowI_r (by decide), e30, stR_ne (by decide), e29, rowI_r (by decide), e28, stR_ne (by decide), e27, rowI_r (by decide), e26, stR_ne (by decide), e25, rowI_r (by decide), e24, stR_ne (by decide), e23, rowI_r (by decide), e22, stR_ne (by decide), e21, rowI_r (by decide), e20, stR_ne (by decide), e19, rowI_r (by decide), e18, stR_ne (by decide), e17, rowI_r (by decide), e16, stI_22, e15, stL_22, e14, stL_22, e13, stI_22, e12, stR_self, e11, libI_r (by decide) (by decide), e10, stR_self, e9, libI_r (by decide) (by decide), e8, stR_self, e7, parI_r (by decide), e6, stR_self, e5, matI_r (by decide), e4, stR_self, e3, stR_self, e2, stR_self, e1, stR_self, show S.2.2 0 = fun _ => none from funext (hz 0 (by omega)).2.2]
      exact up_h0
    · rw [e42, stR_ne (by decide), e41, stdI_r (by decide), e40, stR_ne (by decide), e39, stdI_r (by decide), e38, stR_ne (by decide), e37, stdI_r (by decide), e36, stR_ne (by decide), e35, rowI_r (by decide), e34, stR_ne (by decide), e33, rowI_r (by decide), e32, stR_ne (by decide), e31, rowI_r (by decide), e30, stR_ne (by decide), e29, rowI_r (by decide), e28, stR_self, e27, rowI_r (by decide), e26, stR_self, e25, rowI_r (by decide), e24, stR_self, e23, rowI_r (by decide), e22, stR_self, e21, rowI_r (by decide), e20, stR_self, e19, rowI_r (by decide), e18, stR_self, e17, rowI_r (by decide), e16, stI_22, e15, stL_22, e14, stL_22, e13, stI_22, e12, stR_ne (by decide), e11, libI_r (by decide) (by decide), e10, stR_ne (by decide), e9, libI_r (by decide) (by decide), e8, stR_ne (by decide), e7, parI_r (by decide), e6, stR_ne (by decide), e5, matI_r (by decide), e4, stR_ne (by decide), e3, stR_ne (by decide), e2, stR_ne (by decide), e1, stR_ne (by decide), show S.2.2 1 = fun _ => none from funext (hz 1 (by omega)).2.2]
      exact up_rows
    · rw [e42, stR_ne (by decide), e41, stdI_r (by decide), e40, stR_ne (by decide), e39, stdI_r (by decide), e38, stR_ne (by decide), e37, stdI_r (by decide), e36, stR_self, e35, rowI_r (by decide), e34, stR_self, e33, rowI_r (by decide), e32, stR_self, e31, rowI_r (by decide), e30, stR_self, e29, rowI_r (by decide), e28, stR_ne (by decide), e27, rowI_r (by decide), e26, stR_ne (by decide), e25, rowI_r (by decide), e24, stR_ne (by decide), e23, rowI_r (by decide), e22, stR_ne (by decide), e21, rowI_r (by decide), e20, stR_ne (by decide), e19, rowI_r (by decide), e18, stR_ne (by decide), e17, rowI_r (by decide), e16, stI_22, e15, stL_22, e14, stL_22, e13, stI_22, e12, stR_ne (by decide), e11, libI_r (by decide) (by decide), e10, stR_ne (by decide), e9, libI_r (by decide) (by decide), e8, stR_ne (by decide), e7, parI_r (by decide), e6, stR_ne (by decide), e5, matI_r (by decide), e4, stR_ne (by decide), e3, stR_ne (by decide), e2, stR_ne (by decide), e1, stR_ne (by decide), show S.2.2 2 = fun _ => none from funext (hz 2 (by omega)).2.2]
      exact up_txts
    · rw [e42, stR_self, e41, stdI_r (by decide), e40, stR_self, e39, stdI_r (by decide), e38, stR_self, e37, stdI_r (by decide), e36, stR_ne (by decide), e35, rowI_r (by decide), e34, stR_ne (by decide), e33, rowI_r (by decide), e32, stR_ne (by decide), e31, rowI_r (by decide), e30, stR_ne (by decide), e29, rowI_r (by decide), e28, stR_ne (by decide), e27, rowI_r (by decide), e26, stR_ne (by decide), e25, rowI_r (by decide), e24, stR_ne (by decide), e23, rowI_r (by decide), e22, stR_ne (by decide), e21, rowI_r (by decide), e20, stR_ne (by decide), e19, rowI_r (by decide), e18, stR_ne (by decide), e17, rowI_r (by decide), e16, stI_22, e15, stL_22, e14, stL_22, e13, stI_22, e12, stR_ne (by decide), e11, libI_r (by decide) (by decide), e10, stR_ne (by decide), e9, libI_r (by decide) (by decide), e8, stR_ne (by decide), e7, parI_r (by decide), e6, stR_ne (by decide), e5, matI_r (by decide), e4, stR_ne (by decide), e3, stR_ne (by decide), e2, stR_ne (by decide), e1, stR_ne (by decide), show S.2.2 3 = fun _ => none from funext (hz 3 (by omega)).2.2]
      exact up_kept
    · intro i hi
      rcases (show i = 0 ∨ i = 1 ∨ i = 2 ∨ i = 3 ∨ i = 4 ∨ i = 5 ∨ i = 6 ∨ i = 7 ∨ i = 8 ∨ i = 9 by omega) with rfl | rfl | rfl | rfl | rfl | rfl | rfl | rfl | rfl | rfl
      · show S42.2.2 41 = HRn 41 1
        rw [e42, stR_ne (by decide), e41, stdI_r (by decide), e40, stR_ne (by decide), e39, stdI_r (by decide), e38, stR_ne (by decide), e37, stdI_r (by decide), e36, stR_ne (by decide), e35, rowI_r (by decide), e34, stR_ne (by decide), e33, rowI_r (by decide), e32, stR_ne (by decide), e31, rowI_r (by decide), e30, stR_ne (by decide), e29, rowI_r (by decide), e28, stR_ne (by decide), e27, rowI_r (by decide), e26, stR_ne (by decide), e25, rowI_r (by decide), e24, stR_ne (by decide), e23, rowI_r (by decide), e22, stR_ne (by decide), e21, rowI_r (by decide), e20, stR_ne (by decide), e19, rowI_r (by decide), e18, stR_ne (by decide), e17, rowI_rs, e16, stI_22, e15, stL_22, e14, stL_22, e13, stI_22, e12, stR_ne (by decide), e11, libI_r (by decide) (by decide), e10, stR_ne (by decide), e9, libI_r (by decide) (by decide), e8, stR_ne (by decide), e7, parI_r (by decide), e6, stR_ne (by decide), e5, matI_r (by decide), e4, stR_ne (by decide), e3, stR_ne (by decide), e2, stR_ne (by decide), e1, stR_ne (by decide), show S.2.2 41 = fun _ => none from funext (hz 41 (by omega)).2.2]
        exact up_n41
      · show S42.2.2 43 = HRn 43 1
        rw [e42, stR_ne (by decide), e41, stdI_r (by decide), e40, stR_ne (by decide), e39, stdI_r (by decide), e38, stR_ne (by decide), e37, stdI_r (by decide), e36, stR_ne (by decide), e35, rowI_r (by decide), e34, stR_ne (by decide), e33, rowI_r (by decide), e32, stR_ne (by decide), e31, rowI_r (by decide), e30, stR_ne (by decide), e29, rowI_r (by decide), e28, stR_ne (by decide), e27, rowI_r (by decide), e26, stR_ne (by decide), e25, rowI_r (by decide), e24, stR_ne (by decide), e23, rowI_r (by decide), e22, stR_ne (by decide), e21, rowI_r (by decide), e20, stR_ne (by decide), e19, rowI_rs, e18, stR_ne (by decide), e17, rowI_r (by decide), e16, stI_22, e15, stL_22, e14, stL_22, e13, stI_22, e12, stR_ne (by decide), e11, libI_r (by decide) (by decide), e10, stR_ne (by decide), e9, libI_r (by decide) (by decide), e8, stR_ne (by decide), e7, parI_r (by decide), e6, stR_ne (by decide), e5, matI_r (by decide), e4, stR_ne (by decide), e3, stR_ne (by decide), e2, stR_ne (by decide), e1, stR_ne (by decide), show S.2.2 43 = fun _ => none from funext (hz 43 (by omega)).2.2]
        exact up_n43
      · show S42.2.2 45 = HRn 45 1
        rw [e42, stR_ne (by decide), e41, stdI_r (by decide), e40, stR_ne (by decide), e39, stdI_r (by decide), e38, stR_ne (by decide), e37, stdI_r (by decide), e36, stR_ne (by decide), e35, rowI_r (by decide), e34, stR_ne (by decide), e33, rowI_r (by decide), e32, stR_ne (by decide), e31, rowI_r (by decide), e30, stR_ne (by decide), e29, rowI_r (by decide), e28, stR_ne (by decide), e27, rowI_r (by decide), e26, stR_ne (by decide), e25, rowI_r (by decide), e24, stR_ne (by decide), e23, rowI_r (by decide), e22, stR_ne (by decide), e21, rowI_rs, e20, stR_ne (by decide), e19, rowI_r (by decide), e18, stR_ne (by decide), e17, rowI_r (by decide), e16, stI_22, e15, stL_22, e14, stL_22, e13, stI_22, e12, stR_ne (by decide), e11, libI_r (by decide) (by decide), e10, stR_ne (by decide), e9, libI_r (by decide) (by decide), e8, stR_ne (by decide), e7, parI_r (by decide), e6, stR_ne (by decide), e5, matI_r (by decide), e4, stR_ne (by decide), e3, stR_ne (by decide), e2, stR_ne (by decide), e1, stR_ne (by decide), show S.2.2 45 = fun _ => none from funext (hz 45 (by omega)).2.2]
        exact up_n45
      · show S42.2.2 47 = HRn 47 1
        rw [e42, stR_ne (by decide), e41, stdI_r (by decide), e40, stR_ne (by decide), e39, stdI_r (by decide), e38, stR_ne (by decide), e37, stdI_r (by decide), e36, stR_ne (by decide), e35, rowI_r (by decide), e34, stR_ne (by decide), e33, rowI_r (by decide), e32, stR_ne (by decide), e31, rowI_r (by decide), e30, stR_ne (by decide), e29, rowI_r (by decide), e28, stR_ne (by decide), e27, rowI_r (by decide), e26, stR_ne (by decide), e25, rowI_r (by decide), e24, stR_ne (by decide), e23, rowI_rs, e22, stR_ne (by decide), e21, rowI_r (by decide), e20, stR_ne (by decide), e19, rowI_r (by decide), e18, stR_ne (by decide), e17, rowI_r (by decide), e16, stI_22, e15, stL_22, e14, stL_22, e13, stI_22, e12, stR_ne (by decide), e11, libI_r (by decide) (by decide), e10, stR_ne (by decide), e9, libI_r (by decide) (by decide), e8, stR_ne (by decide), e7, parI_r (by decide), e6, stR_ne (by decide), e5, matI_r (by decide), e4, stR_ne (by decide), e3, stR_ne (by decide), e2, stR_ne (by decide), e1, stR_ne (by decide), show S.2.2 47 = fun _ => none from funext (hz 47 (by omega)).2.2]
        exact up_n47
      · show S42.2.2 49 = HRn 49 1
        rw [e42, stR_ne (by decide), e41, stdI_r (by decide), e40, stR_ne (by decide), e39, stdI_r (by decide), e38, stR_ne (by decide), e37, stdI_r (by decide), e36, stR_ne (by decide), e35, rowI_r (by decide), e34, stR_ne (by decide), e33, rowI_r (by decide), e32, stR_ne (by decide), e31, rowI_r (by decide), e30, stR_ne (by decide), e29, rowI_r (by decide), e28, stR_ne (by decide), e27, rowI_r (by decide), e26, stR_ne (by decide), e25, rowI_rs, e24, stR_ne (by decide), e23, rowI_r (by decide), e22, stR_ne (by decide), e21, rowI_r (by decide), e20, stR_ne (by decide), e19, rowI_r (by decide), e18, stR_ne (by decide), e17, rowI_r (by decide), e16, stI_22, e15, stL_22, e14, stL_22, e13, stI_22, e12, stR_ne (by decide), e11, libI_r (by decide) (by decide), e10, stR_ne (by decide), e9, libI_r (by decide) (by decide), e8, stR_ne (by decide), e7, parI_r (by decide), e6, stR_ne (by decide), e5, matI_r (by decide), e4, stR_ne (by decide), e3, stR_ne (by decide), e2, stR_ne (by decide), e1, stR_ne (by decide), show S.2.2 49 = fun _ => none from funext (hz 49 (by omega)).2.2]
        exact up_n49
      · show S42.2.2 51 = HRn 51 1
        rw [e42, stR_ne (by decide), e41, stdI_r (by decide), e40, stR_ne (by decide), e39, stdI_r (by decide), e38, stR_ne (by decide), e37, stdI_r (by decide), e36, stR_ne (by decide), e35, rowI_r (by decide), e34, stR_ne (by decide), e33, rowI_r (by decide), e32, stR_ne (by decide), e31, rowI_r (by decide), e30, stR_ne (by decide), e29, rowI_r (by decide), e28, stR_ne (by decide), e27, rowI_rs, e26, stR_ne (by decide), e25, rowI_r (by decide), e24, stR_ne (by decide), e23, rowI_r (by decide), e22, stR_ne (by decide), e21, rowI_r (by decide), e20, stR_ne (by decide), e19, rowI_r (by decide), e18, stR_ne (by decide), e17, rowI_r (by decide), e16, stI_22, e15, stL_22, e14, stL_22, e13, stI_22, e12, stR_ne (by decide), e11, libI_r (by decide) (by decide), e10, stR_ne (by decide), e9, libI_r (by decide) (by decide), e8, stR_ne (by decide), e7, parI_r (by decide), e6, stR_ne (by decide), e5, matI_r (by decide), e4, stR_ne (by decide), e3, stR_ne (by decide), e2, stR_ne (by decide), e1, stR_ne (by decide), show S.2.2 51 = fun _ => none from funext (hz 51 (by omega)).2.2]
        exact up_n51
      · show S42.2.2 53 = HRn 53 1
        rw [e42, stR_ne (by decide), e41, stdI_r (by decide), e40, stR_ne (by decide), e39, stdI_r (by decide), e38, stR_ne (by decide), e37, stdI_r (by decide), e36, stR_ne (by decide), e35, rowI_r (by decide), e34, stR_ne (by decide), e33, rowI_r (by decide), e32, stR_ne (by decide), e31, rowI_r (by decide), e30, stR_ne (by decide), e29, rowI_rs, e28, stR_ne (by decide), e27, rowI_r (by decide), e26, stR_ne (by decide), e25, rowI_r (by decide), e24, stR_ne (by decide), e23, rowI_r (by decide), e22, stR_ne (by decide), e21, rowI_r (by decide), e20, stR_ne (by decide), e19, rowI_r (by decide), e18, stR_ne (by decide), e17, rowI_r (by decide), e16, stI_22, e15, stL_22, e14, stL_22, e13, stI_22, e12, stR_ne (by decide), e11, libI_r (by decide) (by decide), e10, stR_ne (by decide), e9, libI_r (by decide) (by decide), e8, stR_ne (by decide), e7, parI_r (by decide), e6, stR_ne (by decide), e5, matI_r (by decide), e4, stR_ne (by decide), e3, stR_ne (by decide), e2, stR_ne (by decide), e1, stR_ne (by decide), show S.2.2 53 = fun _ => none from funext (hz 53 (by omega)).2.2]
        exact up_n53
      · show S42.2.2 55 = HRn 55 1
        rw [e42, stR_ne (by decide), e41, stdI_r (by decide), e40, stR_ne (by decide), e39, stdI_r (by decide), e38, stR_ne (by decide), e37, stdI_r (by decide), e36, stR_ne (by decide), e35, rowI_r (by decide), e34, stR_ne (by decide), e33, rowI_r (by decide), e32, stR_ne (by decide), e31, rowI_rs, e30, stR_ne (by decide), e29, rowI_r (by decide), e28, stR_ne (by decide), e27, rowI_r (by decide), e26, stR_ne (by decide), e25, rowI_r (by decide), e24, stR_ne (by decide), e23, rowI_r (by decide), e22, stR_ne (by decide), e21, rowI_r (by decide), e20, stR_ne (by decide), e19, rowI_r (by decide), e18, stR_ne (by decide), e17, rowI_r (by decide), e16, stI_22, e15, stL_22, e14, stL_22, e13, stI_22, e12, stR_ne (by decide), e11, libI_r (by decide) (by decide), e10, stR_ne (by decide), e9, libI_r (by decide) (by decide), e8, stR_ne (by decide), e7, parI_r (by decide), e6, stR_ne (by decide), e5, matI_r (by decide), e4, stR_ne (by decide), e3, stR_ne (by decide), e2, stR_ne (by decide), e1, stR_ne (by decide), show S.2.2 55 = fun _ => none from funext (hz 55 (by omega)).2.2]
        exact up_n55
      · show S42.2.2 57 = HRn 57 1
        rw [e42, stR_ne (by decide), e41, stdI_r (by decide), e40, stR_ne (by decide), e39, stdI_r (by decide), e38, stR_ne (by decide), e37, stdI_r (by decide), e36, stR_ne (by decide), e35, rowI_r (by decide), e34, stR_ne (by decide), e33, rowI_rs, e32, stR_ne (by decide), e31, rowI_r (by decide), e30, stR_ne (by decide), e29, rowI_r (by decide), e28, stR_ne (by decide), e27, rowI_r (by decide), e26, stR_ne (by decide), e25, rowI_r (by decide), e24, stR_ne (by decide), e23, rowI_r (by decide), e22, stR_ne (by decide), e21, rowI_r (by decide), e20, stR_ne (by decide), e19, rowI_r (by decide), e18, stR_ne (by decide), e17, rowI_r (by decide), e16, stI_22, e15, stL_22, e14, stL_22, e13, stI_22, e12, stR_ne (by decide), e11, libI_r (by decide) (by decide), e10, stR_ne (by decide), e9, libI_r (by decide) (by decide), e8, stR_ne (by decide), e7, parI_r (by decide), e6, stR_ne (by decide), e5, matI_r (by decide), e4, stR_ne (by decide), e3, stR_ne (by decide), e2, stR_ne (by decide), e1, stR_ne (by decide), show S.2.2 57 = fun _ => none from funext (hz 57 (by omega)).2.2]
        exact up_n57
      · show S42.2.2 59 = HRn 59 1
        rw [e42, stR_ne (by decide), e41, stdI_r (by decide), e40, stR_ne (by decide), e39, stdI_r (by decide), e38, stR_ne (by decide), e37, stdI_r (by decide), e36, stR_ne (by decide), e35, rowI_rs, e34, stR_ne (by decide), e33, rowI_r (by decide), e32, stR_ne (by decide), e31, rowI_r (by decide), e30, stR_ne (by decide), e29, rowI_r (by decide), e28, stR_ne (by decide), e27, rowI_r (by decide), e26, stR_ne (by decide), e25, rowI_r (by decide), e24, stR_ne (by decide), e23, rowI_r (by decide), e22, stR_ne (by decide), e21, rowI_r (by decide), e20, stR_ne (by decide), e19, rowI_r (by decide), e18, stR_ne (by decide), e17, rowI_r (by decide), e16, stI_22, e15, stL_22, e14, stL_22, e13, stI_22, e12, stR_ne (by decide), e11, libI_r (by decide) (by decide), e10, stR_ne (by decide), e9, libI_r (by decide) (by decide), e8, stR_ne (by decide), e7, parI_r (by decide), e6, stR_ne (by decide), e5, matI_r (by decide), e4, stR_ne (by decide), e3, stR_ne (by decide), e2, stR_ne (by decide), e1, stR_ne (by decide), show S.2.2 59 = fun _ => none from funext (hz 59 (by omega)).2.2]
        exact up_n59
    · rw [e42, stR_ne (by decide), e41, stdI_r (by decide), e40, stR_ne (by decide), e39, stdI_r (by decide), e38, stR_ne (by decide), e37, stdI_r (by decide), e36, stR_ne (by decide), e35, rowI_r (by decide), e34, stR_ne (by decide), e33, rowI_r (by decide), e32, stR_ne (by decide), e31, rowI_r (by decide), e30, stR_ne (by decide), e29, rowI_r (by decide), e28, stR_ne (by decide), e27, rowI_r (by decide), e26, stR_ne (by decide), e25, rowI_r (by decide), e24, stR_ne (by decide), e23, rowI_r (by decide), e22, stR_ne (by decide), e21, rowI_r (by decide), e20, stR_ne (by decide), e19, rowI_r (by decide), e18, stR_ne (by decide), e17, rowI_r (by decide), e16, stI_22, e15, stL_22, e14, stL_22, e13, stI_22, e12, stR_ne (by decide), e11, libI_r (by decide) (by decide), e10, stR_ne (by decide), e9, libI_r (by decide) (by decide), e8, stR_ne (by decide), e7, parI_r (by decide), e6, stR_ne (by decide), e5, matI_rs, e4, stR_ne (by decide), e3, stR_ne (by decide), e2, stR_ne (by decide), e1, stR_ne (by decide), show S.2.2 5 = fun _ => none from funext (hz 5 (by omega)).2.2]
      exact up_n5
    · rw [e42, stR_ne (by decide), e41, stdI_r (by decide), e40, stR_ne (by decide), e39, stdI_r (by decide), e38, stR_ne (by decide), e37, stdI_r (by decide), e36, stR_ne (by decide), e35, rowI_r (by decide), e34, stR_ne (by decide), e33, rowI_r (by decide), e32, stR_ne (by decide), e31, rowI_r (by decide), e30, stR_ne (by decide), e29, rowI_r (by decide), e28, stR_ne (by decide), e27, rowI_r (by decide), e26, stR_ne (by decide), e25, rowI_r (by decide), e24, stR_ne (by decide), e23, rowI_r (by decide), e22, stR_ne (by decide), e21, rowI_r (by decide), e20, stR_ne (by decide), e19, rowI_r (by decide), e18, stR_ne (by decide), e17, rowI_r (by decide), e16, stI_22, e15, stL_22, e14, stL_22, e13, stI_22, e12, stR_ne (by decide), e11, libI_r (by decide) (by decide), e10, stR_ne (by decide), e9, libI_r (by decide) (by decide), e8, stR_ne (by decide), e7, parI_rs, e6, stR_ne (by decide), e5, matI_r (by decide), e4, stR_ne (by decide), e3, stR_ne (by decide), e2, stR_ne (by decide), e1, stR_ne (by decide), show S.2.2 9 = fun _ => none from funext (hz 9 (by omega)).2.2]
      exact up_n9
    · intro k hk
      rcases hk with rfl | rfl
      · refine ⟨?_, ?_⟩
        · rw [e42, stR_ne (by decide), e41, stdI_r (by decide), e40, stR_ne (by decide), e39, stdI_r (by decide), e38, stR_ne (by decide), e37, stdI_r (by decide), e36, stR_ne (by decide), e35, rowI_r (by decide), e34, stR_ne (by decide), e33, rowI_r (by decide), e32, stR_ne (by decide), e31, rowI_r (by decide), e30, stR_ne (by decide), e29, rowI_r (by decide), e28, stR_ne (by decide), e27, rowI_r (by decide), e26, stR_ne (by decide), e25, rowI_r (by decide), e24, stR_ne (by decide), e23, rowI_r (by decide), e22, stR_ne (by decide), e21, rowI_r (by decide), e20, stR_ne (by decide), e19, rowI_r (by decide), e18, stR_ne (by decide), e17, rowI_r (by decide), e16, stI_22, e15, stL_22, e14, stL_22, e13, stI_22, e12, stR_ne (by decide), e11, libI_r (by decide) (by decide), e10, stR_ne (by decide), e9, libI_rk, e8, stR_ne (by decide), e7, parI_r (by decide), e6, stR_ne (by decide), e5, matI_r (by decide), e4, stR_ne (by decide), e3, stR_ne (by decide), e2, stR_ne (by decide), e1, stR_ne (by decide), show S.2.2 13 = fun _ => none from funext (hz 13 (by omega)).2.2]
          exact up_n13
        · show S42.2.2 20 = HRn 20 6
          rw [e42, stR_ne (by decide), e41, stdI_r (by decide), e40, stR_ne (by decide), e39, stdI_r (by decide), e38, stR_ne (by decide), e37, stdI_r (by decide), e36, stR_ne (by decide), e35, rowI_r (by decide), e34, stR_ne (by decide), e33, rowI_r (by decide), e32, stR_ne (by decide), e31, rowI_r (by decide), e30, stR_ne (by decide), e29, rowI_r (by decide), e28, stR_ne (by decide), e27, rowI_r (by decide), e26, stR_ne (by decide), e25, rowI_r (by decide), e24, stR_ne (by decide), e23, rowI_r (by decide), e22, stR_ne (by decide), e21, rowI_r (by decide), e20, stR_ne (by decide), e19, rowI_r (by decide), e18, stR_ne (by decide), e17, rowI_r (by decide), e16, stI_22, e15, stL_22, e14, stL_22, e13, stI_22, e12, stR_ne (by decide), e11, libI_r (by decide) (by decide), e10, stR_ne (by decide), e9, show (20 : Nat) = 13 + 7 from rfl, libI_rs, e8, stR_ne (by decide), e7, parI_r (by decide), e6, stR_ne (by decide), e5, matI_r (by decide), e4, stR_ne (by decide), e3, stR_ne (by decide), e2, stR_ne (by decide), e1, stR_ne (by decide), show S.2.2 20 = fun _ => none from funext (hz 20 (by omega)).2.2]
          exact up_n20
      · refine ⟨?_, ?_⟩
        · rw [e42, stR_ne (by decide), e41, stdI_r (by decide), e40, stR_ne (by decide), e39, stdI_r (by decide), e38, stR_ne (by decide), e37, stdI_r (by decide), e36, stR_ne (by decide), e35, rowI_r (by decide), e34, stR_ne (by decide), e33, rowI_r (by decide), e32, stR_ne (by decide), e31, rowI_r (by decide), e30, stR_ne (by decide), e29, rowI_r (by decide), e28, stR_ne (by decide), e27, rowI_r (by decide), e26, stR_ne (by decide), e25, rowI_r (by decide), e24, stR_ne (by decide), e23, rowI_r (by decide), e22, stR_ne (by decide), e21, rowI_r (by decide), e20, stR_ne (by decide), e19, rowI_r (by decide), e18, stR_ne (by decide), e17, rowI_r (by decide), e16, stI_22, e15, stL_22, e14, stL_22, e13, stI_22, e12, stR_ne (by decide), e11, libI_rk, e10, stR_ne (by decide), e9, libI_r (by decide) (by decide), e8, stR_ne (by decide), e7, parI_r (by decide), e6, stR_ne (by decide), e5, matI_r (by decide), e4, stR_ne (by decide), e3, stR_ne (by decide), e2, stR_ne (by decide), e1, stR_ne (by decide), show S.2.2 27 = fun _ => none from funext (hz 27 (by omega)).2.2]
          exact up_n27
        · show S42.2.2 34 = HRn 34 6
          rw [e42, stR_ne (by decide), e41, stdI_r (by decide), e40, stR_ne (by decide), e39, stdI_r (by decide), e38, stR_ne (by decide), e37, stdI_r (by decide), e36, stR_ne (by decide), e35, rowI_r (by decide), e34, stR_ne (by decide), e33, rowI_r (by decide), e32, stR_ne (by decide), e31, rowI_r (by decide), e30, stR_ne (by decide), e29, rowI_r (by decide), e28, stR_ne (by decide), e27, rowI_r (by decide), e26, stR_ne (by decide), e25, rowI_r (by decide), e24, stR_ne (by decide), e23, rowI_r (by decide), e22, stR_ne (by decide), e21, rowI_r (by decide), e20, stR_ne (by decide), e19, rowI_r (by decide), e18, stR_ne (by decide), e17, rowI_r (by decide), e16, stI_22, e15, stL_22, e14, stL_22, e13, stI_22, e12, stR_ne (by decide), e11, show (34 : Nat) = 27 + 7 from rfl, libI_rs, e10, stR_ne (by decide), e9, libI_r (by decide) (by decide), e8, stR_ne (by decide), e7, parI_r (by decide), e6, stR_ne (by decide), e5, matI_r (by decide), e4, stR_ne (by decide), e3, stR_ne (by decide), e2, stR_ne (by decide), e1, stR_ne (by decide), show S.2.2 34 = fun _ => none from funext (hz 34 (by omega)).2.2]
          exact up_n34
    · intro i hi
      rcases (show i = 0 ∨ i = 1 ∨ i = 2 by omega) with rfl | rfl | rfl
      · show S42.2.2 61 = HRn 61 6
        rw [e42, stR_ne (by decide), e41, stdI_r (by decide), e40, stR_ne (by decide), e39, stdI_r (by decide), e38, stR_ne (by decide), e37, stdI_rs, e36, stR_ne (by decide), e35, rowI_r (by decide), e34, stR_ne (by decide), e33, rowI_r (by decide), e32, stR_ne (by decide), e31, rowI_r (by decide), e30, stR_ne (by decide), e29, rowI_r (by decide), e28, stR_ne (by decide), e27, rowI_r (by decide), e26, stR_ne (by decide), e25, rowI_r (by decide), e24, stR_ne (by decide), e23, rowI_r (by decide), e22, stR_ne (by decide), e21, rowI_r (by decide), e20, stR_ne (by decide), e19, rowI_r (by decide), e18, stR_ne (by decide), e17, rowI_r (by decide), e16, stI_22, e15, stL_22, e14, stL_22, e13, stI_22, e12, stR_ne (by decide), e11, libI_r (by decide) (by decide), e10, stR_ne (by decide), e9, libI_r (by decide) (by decide), e8, stR_ne (by decide), e7, parI_r (by decide), e6, stR_ne (by decide), e5, matI_r (by decide), e4, stR_ne (by decide), e3, stR_ne (by decide), e2, stR_ne (by decide), e1, stR_ne (by decide), show S.2.2 61 = fun _ => none from funext (hz 61 (by omega)).2.2]
        exact up_n61
      · show S42.2.2 68 = HRn 68 6
        rw [e42, stR_ne (by decide), e41, stdI_r (by decide), e40, stR_ne (by decide), e39, stdI_rs, e38, stR_ne (by decide), e37, stdI_r (by decide), e36, stR_ne (by decide), e35, rowI_r (by decide), e34, stR_ne (by decide), e33, rowI_r (by decide), e32, stR_ne (by decide), e31, rowI_r (by decide), e30, stR_ne (by decide), e29, rowI_r (by decide), e28, stR_ne (by decide), e27, rowI_r (by decide), e26, stR_ne (by decide), e25, rowI_r (by decide), e24, stR_ne (by decide), e23, rowI_r (by decide), e22, stR_ne (by decide), e21, rowI_r (by decide), e20, stR_ne (by decide), e19, rowI_r (by decide), e18, stR_ne (by decide), e17, rowI_r (by decide), e16, stI_22, e15, stL_22, e14, stL_22, e13, stI_22, e12, stR_ne (by decide), e11, libI_r (by decide) (by decide), e10, stR_ne (by decide), e9, libI_r (by decide) (by decide), e8, stR_ne (by decide), e7, parI_r (by decide), e6, stR_ne (by decide), e5, matI_r (by decide), e4, stR_ne (by decide), e3, stR_ne (by decide), e2, stR_ne (by decide), e1, stR_ne (by decide), show S.2.2 68 = fun _ => none from funext (hz 68 (by omega)).2.2]
        exact up_n68
      · show S42.2.2 75 = HRn 75 6
        rw [e42, stR_ne (by decide), e41, stdI_rs, e40, stR_ne (by decide), e39, stdI_r (by decide), e38, stR_ne (by decide), e37, stdI_r (by decide), e36, stR_ne (by decide), e35, rowI_r (by decide), e34, stR_ne (by decide), e33, rowI_r (by decide), e32, stR_ne (by decide), e31, rowI_r (by decide), e30, stR_ne (by decide), e29, rowI_r (by decide), e28, stR_ne (by decide), e27, rowI_r (by decide), e26, stR_ne (by decide), e25, rowI_r (by decide), e24, stR_ne (by decide), e23, rowI_r (by decide), e22, stR_ne (by decide), e21, rowI_r (by decide), e20, stR_ne (by decide), e19, rowI_r (by decide), e18, stR_ne (by decide), e17, rowI_r (by decide), e16, stI_22, e15, stL_22, e14, stL_22, e13, stI_22, e12, stR_ne (by decide), e11, libI_r (by decide) (by decide), e10, stR_ne (by decide), e9, libI_r (by decide) (by decide), e8, stR_ne (by decide), e7, parI_r (by decide), e6, stR_ne (by decide), e5, matI_r (by decide), e4, stR_ne (by decide), e3, stR_ne (by decide), e2, stR_ne (by decide), e1, stR_ne (by decide), show S.2.2 75 = fun _ => none from funext (hz 75 (by omega)).2.2]
        exact up_n75
    · rw [e42, stR_1, e41, stdI_i (by decide), e40, stR_1, e39, stdI_i (by decide), e38, stR_1, e37, stdI_i (by decide), e36, stR_1, e35, rowI_i (by decide), e34, stR_1, e33, rowI_i (by decide), e32, stR_1, e31, rowI_i (by decide), e30, stR_1, e29, rowI_i (by decide), e28, stR_1, e27, rowI_i (by decide), e26, stR_1, e25, rowI_i (by decide), e24, stR_1, e23, rowI_i (by decide), e22, stR_1, e21, rowI_i (by decide), e20, stR_1, e19, rowI_i (by decide), e18, stR_1, e17, rowI_i (by decide), e16, stI_at, if_pos rfl, if_neg (by decide), e15, stL_1, e14, stL_1, e13, stI_at, if_pos rfl, if_pos rfl]
    · rw [e42, stR_1, e41, stdI_i (by decide), e40, stR_1, e39, stdI_i (by decide), e38, stR_1, e37, stdI_i (by decide), e36, stR_1, e35, rowI_i (by decide), e34, stR_1, e33, rowI_i (by decide), e32, stR_1, e31, rowI_i (by decide), e30, stR_1, e29, rowI_i (by decide), e28, stR_1, e27, rowI_i (by decide), e26, stR_1, e25, rowI_i (by decide), e24, stR_1, e23, rowI_i (by decide), e22, stR_1, e21, rowI_i (by decide), e20, stR_1, e19, rowI_i (by decide), e18, stR_1, e17, rowI_i (by decide), e16, stI_at, if_pos rfl, if_pos rfl]
    · intro f
      rw [e42, stR_1, e41, stdI_i (by decide), e40, stR_1, e39, stdI_i (by decide), e38, stR_1, e37, stdI_i (by decide), e36, stR_1, e35, rowI_i (by decide), e34, stR_1, e33, rowI_i (by decide), e32, stR_1, e31, rowI_i (by decide), e30, stR_1, e29, rowI_i (by decide), e28, stR_1, e27, rowI_i (by decide), e26, stR_1, e25, rowI_i (by decide), e24, stR_1, e23, rowI_i (by decide), e22, stR_1, e21, rowI_i (by decide), e20, stR_1, e19, rowI_i (by decide), e18, stR_1, e17, rowI_i (by decide), e16, stI_ne (by decide), e15, stL_1, e14, stL_1, e13, stI_ne (by decide), e12, stR_1, e11, libI_i (by decide) (by decide) (by decide) (by decide), e10, stR_1, e9, libI_i (by decide) (by decide) (by decide) (by decide), e8, stR_1, e7, parI_i (by decide), e6, stR_1, e5, matI_i (by decide), e4, stR_1, e3, stR_1, e2, stR_1, e1, stR_1]; exact (hz 4 (by omega)).1 _
    · rw [e42, stR_21, e41, stdI_l, e40, stR_21, e39, stdI_l, e38, stR_21, e37, stdI_l, e36, stR_21, e35, rowI_l, e34, stR_21, e33, rowI_l, e32, stR_21, e31, rowI_l, e30, stR_21, e29, rowI_l, e28, stR_21, e27, rowI_l, e26, stR_21, e25, rowI_l, e24, stR_21, e23, rowI_l, e22, stR_21, e21, rowI_l, e20, stR_21, e19, rowI_l, e18, stR_21, e17, rowI_l, e16, stI_21, e15, stL_at, if_pos rfl, if_neg (by decide), e14, stL_at, if_pos rfl, if_pos rfl]
    · rw [e42, stR_21, e41, stdI_l, e40, stR_21, e39, stdI_l, e38, stR_21, e37, stdI_l, e36, stR_21, e35, rowI_l, e34, stR_21, e33, rowI_l, e32, stR_21, e31, rowI_l, e30, stR_21, e29, rowI_l, e28, stR_21, e27, rowI_l, e26, stR_21, e25, rowI_l, e24, stR_21, e23, rowI_l, e22, stR_21, e21, rowI_l, e20, stR_21, e19, rowI_l, e18, stR_21, e17, rowI_l, e16, stI_21, e15, stL_at, if_pos rfl, if_pos rfl]
    · intro r hr
      rcases (show r = 0 ∨ r = 1 ∨ r = 2 ∨ r = 3 ∨ r = 4 ∨ r = 5 ∨ r = 6 ∨ r = 7 ∨ r = 8 ∨ r = 9 by omega) with rfl | rfl | rfl | rfl | rfl | rfl | rfl | rfl | rfl | rfl
      · show S42.1 41 1 = -1
        rw [e42, stR_1, e41, stdI_i (by decide), e40, stR_1, e39, stdI_i (by decide), e38, stR_1, e37, stdI_i (by decide), e36, stR_1, e35, rowI_i (by decide), e34, stR_1, e33, rowI_i (by decide), e32, stR_1, e31, rowI_i (by decide), e30, stR_1, e29, rowI_i (by decide), e28, stR_1, e27, rowI_i (by decide), e26, stR_1, e25, rowI_i (by decide), e24, stR_1, e23, rowI_i (by decide), e22, stR_1, e21, rowI_i (by decide), e20, stR_1, e19, rowI_i (by decide), e18, stR_1, e17, rowI_is]
      · show S42.1 43 1 = -1
        rw [e42, stR_1, e41, stdI_i (by decide), e40, stR_1, e39, stdI_i (by decide), e38, stR_1, e37, stdI_i (by decide), e36, stR_1, e35, rowI_i (by decide), e34, stR_1, e33, rowI_i (by decide), e32, stR_1, e31, rowI_i (by decide), e30, stR_1, e29, rowI_i (by decide), e28, stR_1, e27, rowI_i (by decide), e26, stR_1, e25, rowI_i (by decide), e24, stR_1, e23, rowI_i (by decide), e22, stR_1, e21, rowI_i (by decide), e20, stR_1, e19, rowI_is]
      · show S42.1 45 1 = -1
        rw [e42, stR_1, e41, stdI_i (by decide), e40, stR_1, e39, stdI_i (by decide), e38, stR_1, e37, stdI_i (by decide), e36, stR_1, e35, rowI_i (by decide), e34, stR_1, e33, rowI_i (by decide), e32, stR_1, e31, rowI_i (by decide), e30, stR_1, e29, rowI_i (by decide), e28, stR_1, e27, rowI_i (by decide), e26, stR_1, e25, rowI_i (by decide), e24, stR_1, e23, rowI_i (by decide), e22, stR_1, e21, rowI_is]
      · show S42.1 47 1 = -1
        rw [e42, stR_1, e41, stdI_i (by decide), e40, stR_1, e39, stdI_i (by decide), e38, stR_1, e37, stdI_i (by decide), e36, stR_1, e35, rowI_i (by decide), e34, stR_1, e33, rowI_i (by decide), e32, stR_1, e31, rowI_i (by decide), e30, stR_1, e29, rowI_i (by decide), e28, stR_1, e27, rowI_i (by decide), e26, stR_1, e25, rowI_i (by decide), e24, stR_1, e23, rowI_is]
      · show S42.1 49 1 = -1
        rw [e42, stR_1, e41, stdI_i (by decide), e40, stR_1, e39, stdI_i (by decide), e38, stR_1, e37, stdI_i (by decide), e36, stR_1, e35, rowI_i (by decide), e34, stR_1, e33, rowI_i (by decide), e32, stR_1, e31, rowI_i (by decide), e30, stR_1, e29, rowI_i (by decide), e28, stR_1, e27, rowI_i (by decide), e26, stR_1, e25, rowI_is]
      · show S42.1 51 1 = -1
        rw [e42, stR_1, e41, stdI_i (by decide), e40, stR_1, e39, stdI_i (by decide), e38, stR_1, e37, stdI_i (by decide), e36, stR_1, e35, rowI_i (by decide), e34, stR_1, e33, rowI_i (by decide), e32, stR_1, e31, rowI_i (by decide), e30, stR_1, e29, rowI_i (by decide), e28, stR_1, e27, rowI_is]
      · show S42.1 53 1 = -1
        rw [e42, stR_1, e41, stdI_i (by decide), e40, stR_1, e39, stdI_i (by decide), e38, stR_1, e37, stdI_i (by decide), e36, stR_1, e35, rowI_i (by decide), e34, stR_1, e33, rowI_i (by decide), e32, stR_1, e31, rowI_i (by decide), e30, stR_1, e29, rowI_is]
      · show S42.1 55 1 = -1
        rw [e42, stR_1, e41, stdI_i (by decide), e40, stR_1, e39, stdI_i (by decide), e38, stR_1, e37, stdI_i (by decide), e36, stR_1, e35, rowI_i (by decide), e34, stR_1, e33, rowI_i (by decide), e32, stR_1, e31, rowI_is]
      · show S42.1 57 1 = -1
        rw [e42, stR_1, e41, stdI_i (by decide), e40, stR_1, e39, stdI_i (by decide), e38, stR_1, e37, stdI_i (by decide), e36, stR_1, e35, rowI_i (by decide), e34, stR_1, e33, rowI_is]
      · show S42.1 59 1 = -1
        rw [e42, stR_1, e41, stdI_i (by decide), e40, stR_1, e39, stdI_i (by decide), e38, stR_1, e37, stdI_i (by decide), e36, stR_1, e35, rowI_is]
    · rw [e42, stR_1, e41, stdI_i (by decide), e40, stR_1, e39, stdI_i (by decide), e38, stR_1, e37, stdI_i (by decide), e36, stR_1, e35, rowI_i (by decide), e34, stR_1, e33, rowI_i (by decide), e32, stR_1, e31, rowI_i (by decide), e30, stR_1, e29, rowI_i (by decide), e28, stR_1, e27, rowI_i (by decide), e26, stR_1, e25, rowI_i (by decide), e24, stR_1, e23, rowI_i (by decide), e22, stR_1, e21, rowI_i (by decide), e20, stR_1, e19, rowI_i (by decide), e18, stR_1, e17, rowI_i (by decide), e16, stI_ne (by decide), e15, stL_1, e14, stL_1, e13, stI_ne (by decide), e12, stR_1, e11, libI_i (by decide) (by decide) (by decide) (by decide), e10, stR_1, e9, libI_7]
    · rw [e42, stR_1, e41, stdI_i (by decide), e40, stR_1, e39, stdI_i (by decide), e38, stR_1, e37, stdI_i (by decide), e36, stR_1, e35, rowI_i (by decide), e34, stR_1, e33, rowI_i (by decide), e32, stR_1, e31, rowI_i (by decide), e30, stR_1, e29, rowI_i (by decide), e28, stR_1, e27, rowI_i (by decide), e26, stR_1, e25, rowI_i (by decide), e24, stR_1, e23, rowI_i (by decide), e22, stR_1, e21, rowI_i (by decide), e20, stR_1, e19, rowI_i (by decide), e18, stR_1, e17, rowI_i (by decide), e16, stI_ne (by decide), e15, stL_1, e14, stL_1, e13, stI_ne (by decide), e12, stR_1, e11, libI_i (by decide) (by decide) (by decide) (by decide), e10, stR_1, e9, libI_8]
    · rw [e42, stR_1, e41, stdI_i (by decide), e40, stR_1, e39, stdI_i (by decide), e38, stR_1, e37, stdI_i (by decide), e36, stR_1, e35, rowI_i (by decide), e34, stR_1, e33, rowI_i (by decide), e32, stR_1, e31, rowI_i (by decide), e30, stR_1, e29, rowI_i (by decide), e28, stR_1, e27, rowI_i (by decide), e26, stR_1, e25, rowI_i (by decide), e24, stR_1, e23, rowI_i (by decide), e22, stR_1, e21, rowI_i (by decide), e20, stR_1, e19, rowI_i (by decide), e18, stR_1, e17, rowI_i (by decide), e16, stI_ne (by decide), e15, stL_1, e14, stL_1, e13, stI_ne (by decide), e12, stR_1, e11, libI_i (by decide) (by decide) (by decide) (by decide), e10, stR_1, e9, show (20 : Nat) = 13 + 7 from rfl, libI_6]
    · intro q hq
      rw [e42, stR_1, e41, stdI_i (by decide), e40, stR_1, e39, stdI_i (by decide), e38, stR_1, e37, stdI_i (by decide), e36, stR_1, e35, rowI_i (by decide), e34, stR_1, e33, rowI_i (by decide), e32, stR_1, e31, rowI_i (by decide), e30, stR_1, e29, rowI_i (by decide), e28, stR_1, e27, rowI_i (by decide), e26, stR_1, e25, rowI_i (by decide), e24, stR_1, e23, rowI_i (by decide), e22, stR_1, e21, rowI_i (by decide), e20, stR_1, e19, rowI_i (by decide), e18, stR_1, e17, rowI_i (by decide), e16, stI_ne (by decide), e15, stL_1, e14, stL_1, e13, stI_ne (by decide), e12, stR_1, e11, libI_i (by decide) (by decide) (by decide) (by decide), e10, stR_1, e9, show (24 : Nat) = 13 + 11 from rfl, libI_9 hq]
    · intro i hi
      rcases (show i = 0 ∨ i = 1 ∨ i = 2 by omega) with rfl | rfl | rfl
      · show S42.1 61 6 = -1
        rw [e42, stR_1, e41, stdI_i (by decide), e40, stR_1, e39, stdI_i (by decide), e38, stR_1, e37, stdI_is]
      · show S42.1 68 6 = -1
        rw [e42, stR_1, e41, stdI_i (by decide), e40, stR_1, e39, stdI_is]
      · show S42.1 75 6 = -1
        rw [e42, stR_1, e41, stdI_is]
    · have t0 : Zr S 82 := hz.up (by omega)
      have t1 : Zr S1 82 := by rw [e1]; exact t0.R (by omega)
      have t2 : Zr S2 82 := by rw [e2]; exact t1.R (by omega)
      have t3 : Zr S3 82 := by rw [e3]; exact t2.R (by omega)
      have t4 : Zr S4 82 := by rw [e4]; exact t3.R (by omega)
      have t5 : Zr S5 82 := by rw [e5]; exact matI_z t4 (by omega)
      have t6 : Zr S6 82 := by rw [e6]; exact t5.R (by omega)
      have t7 : Zr S7 82 := by rw [e7]; exact parI_z t6 (by omega)
      have t8 : Zr S8 82 := by rw [e8]; exact t7.R (by omega)
      have t9 : Zr S9 82 := by rw [e9]; exact libI_z t8 (by omega)
      have t10 : Zr S10 82 := by rw [e10]; exact t9.R (by omega)
      have t11 : Zr S11 82 := by rw [e11]; exact libI_z t10 (by omega)
      have t12 : Zr S12 82 := by rw [e12]; exact t11.R (by omega)
      have t13 : Zr S13 82 := by rw [e13]; exact t12.I (by omega)
      have t14 : Zr S14 82 := by rw [e14]; exact t13.L (by omega)
      have t15 : Zr S15 82 := by rw [e15]; exact t14.L (by omega)
      have t16 : Zr S16 82 := by rw [e16]; exact t15.I (by omega)
      have t17 : Zr S17 82 := by rw [e17]; exact rowI_z t16 (by omega)
      have t18 : Zr S18 82 := by rw [e18]; exact t17.R (by omega)
      have t19 : Zr S19 82 := by rw [e19]; exact rowI_z t18 (by omega)
      have t20 : Zr S20 82 := by rw [e20]; exact t19.R (by omega)
      have t21 : Zr S21 82 := by rw [e21]; exact rowI_z t20 (by omega)
      have t22 : Zr S22 82 := by rw [e22]; exact t21.R (by omega)
      have t23 : Zr S23 82 := by rw [e23]; exact rowI_z t22 (by omega)
      have t24 : Zr S24 82 := by rw [e24]; exact t23.R (by omega)
      have t25 : Zr S25 82 := by rw [e25]; exact rowI_z t24 (by omega)
      have t26 : Zr S26 82 := by rw [e26]; exact t25.R (by omega)
      have t27 : Zr S27 82 := by rw [e27]; exact rowI_z t26 (by omega)
      have t28 : Zr S28 82 := by rw [e28]; exact t27.R (by omega)
      have t29 : Zr S29 82 := by rw [e29]; exact rowI_z t28 (by omega)
      have t30 : Zr S30 82 := by rw [e30]; exact t29.R (by omega)
      have t31 : Zr S31 82 := by rw [e31]; exact rowI_z t30 (by omega)
      have t32 : Zr S32 82 := by rw [e32]; exact t31.R (by omega)
      have t33 : Zr S33 82 := by rw [e33]; exact rowI_z t32 (by omega)
      have t34 : Zr S34 82 := by rw [e34]; exact t33.R (by omega)
      have t35 : Zr S35 82 := by rw [e35]; exact rowI_z t34 (by omega)
      have t36 : Zr S36 82 := by rw [e36]; exact t35.R (by omega)
      have t37 : Zr S37 82 := by rw [e37]; exact stdI_z t36 (by omega)
      have t38 : Zr S38 82 := by rw [e38]; exact t37.R (by omega)
      have t39 : Zr S39 82 := by rw [e39]; exact stdI_z t38 (by omega)
      have t40 : Zr S40 82 := by rw [e40]; exact t39.R (by omega)
      have t41 : Zr S41 82 := by rw [e41]; exact stdI_z t40 (by omega)
      have t42 : Zr S42 82 := by rw [e42]; exact t41.R (by omega)
      exact t42
set_option maxHeartbeats 8000000 in
theorem K_X7 {G : aG} {l : Launch} {S : aSt} (hz : Zr S 82) : ∃ S', Ctr G l yX7_init mX7_init (rmK 2 14 2863) 83 97 S [.ref 82] none S' ∧ FM S S' := by
  have hz1 : Zr S 83 := hz.up (by omega)
  obtain ⟨S1, e1⟩ : ∃ z, z = stR S 82 0 (some 83) := ⟨_, rfl⟩
  obtain ⟨S2, e2⟩ : ∃ z, z = stR S1 82 1 (some 84) := ⟨_, rfl⟩
  obtain ⟨S3, e3⟩ : ∃ z, z = stR S2 82 2 (some 85) := ⟨_, rfl⟩
  obtain ⟨S4, e4⟩ : ∃ z, z = stR S3 82 3 (some 86) := ⟨_, rfl⟩
  obtain ⟨S5, e5⟩ : ∃ z, z = stR S4 82 4 (some 87) := ⟨_, rfl⟩
  obtain ⟨S6, e6⟩ : ∃ z, z = stR S5 82 5 (some 88) := ⟨_, rfl⟩
  obtain ⟨S7, e7⟩ : ∃ z, z = stR S6 82 6 (some 89) := ⟨_, rfl⟩
  obtain ⟨S8, e8⟩ : ∃ z, z = stL S7 82 9 (1 : Int64) := ⟨_, rfl⟩
  obtain ⟨S9, e9⟩ : ∃ z, z = stR S8 82 11 (some 90) := ⟨_, rfl⟩
  obtain ⟨S10, e10⟩ : ∃ z, z = stR S9 82 12 (some 91) := ⟨_, rfl⟩
  obtain ⟨S11, e11⟩ : ∃ z, z = stR S10 82 14 (some 92) := ⟨_, rfl⟩
  obtain ⟨S12, e12⟩ : ∃ z, z = stR S11 82 15 (some 93) := ⟨_, rfl⟩
  obtain ⟨S13, e13⟩ : ∃ z, z = stR S12 82 16 (some 94) := ⟨_, rfl⟩
  obtain ⟨S14, e14⟩ : ∃ z, z = stR S13 82 19 (some 95) := ⟨_, rfl⟩
  obtain ⟨S15, e15⟩ : ∃ z, z = stR S14 82 20 (some 96) := ⟨_, rfl⟩
  obtain ⟨S16, e16⟩ : ∃ z, z = stI S15 83 0 (-1 : Int32) := ⟨_, rfl⟩
  obtain ⟨S17, e17⟩ : ∃ z, z = stI S16 83 1 (-1 : Int32) := ⟨_, rfl⟩
  obtain ⟨S18, e18⟩ : ∃ z, z = stI S17 83 2 (-1 : Int32) := ⟨_, rfl⟩
  obtain ⟨S19, e19⟩ : ∃ z, z = stI S18 83 3 (-1 : Int32) := ⟨_, rfl⟩
  obtain ⟨S20, e20⟩ : ∃ z, z = stI S19 83 4 (-1 : Int32) := ⟨_, rfl⟩
  obtain ⟨S21, e21⟩ : ∃ z, z = stI S20 83 5 (-1 : Int32) := ⟨_, rfl⟩
  obtain ⟨S22, e22⟩ : ∃ z, z = stI S21 85 0 (-1 : Int32) := ⟨_, rfl⟩
  obtain ⟨S23, e23⟩ : ∃ z, z = stI S22 85 1 (-1 : Int32) := ⟨_, rfl⟩
  obtain ⟨S24, e24⟩ : ∃ z, z = stI S23 85 2 (-1 : Int32) := ⟨_, rfl⟩
  obtain ⟨S25, e25⟩ : ∃ z, z = stI S24 85 3 (-1 : Int32) := ⟨_, rfl⟩
  refine ⟨S25, ?_, ?_⟩
  · refine Ctr.of (by decide) rfl rfl (Nat.le_of_ble_eq_true rfl) [(0, .ref 82)] rfl ?_
    refine Go.aload_n 0 1 rfl dX7_init_0 rfl ?_
    refine Go.objI 4 rfl dX7_init_1 (am_mem 837 (by decide +kernel) rfl) (am_mem 70 (by decide +kernel) rfl) (am_mem 71 (by decide +kernel) rfl) (Nat.le_of_ble_eq_true rfl) (Nat.le_of_ble_eq_true rfl) ?_
    refine Go.aload_n 0 5 rfl dX7_init_4 rfl ?_
    refine Go.bipush (6 : Int32) 7 rfl dX7_init_5 cb_6 ?_
    refine Go.newI (N := 6) 9 84 1 6 rfl rfl rfl rfl dX7_init_7 (by decide +kernel) rfl (by decide) (by decide) hz1 (am_mem 109 (by decide +kernel) rfl) (Nat.le_of_ble_eq_true rfl) (by decide) ?_
    have y5 : Zr S 84 := hz1.up (by omega)
    refine Go.putR 12 rfl dX7_init_9 fp_X7_7 (Or.inr ⟨_, rfl⟩) rfl (by decide) (by decide +kernel) (fun _ => rfl) (Go.stG S1 e1 ?_)
    have z1 : Zr S1 84 := by rw [e1]; exact y5.R (by omega)
    refine Go.aload_n 0 13 rfl dX7_init_12 rfl ?_
    refine Go.sipush (240 : Int32) 16 rfl dX7_init_13 cs_240 ?_
    refine Go.newI (N := 240) 18 85 2 246 rfl rfl rfl rfl dX7_init_16 (by decide +kernel) rfl (by decide) (by decide) z1 (am_mem 109 (by decide +kernel) rfl) (Nat.le_of_ble_eq_true rfl) (by decide) ?_
    have y11 : Zr S1 85 := z1.up (by omega)
    refine Go.putR 21 rfl dX7_init_18 fp_X7_13 (Or.inr ⟨_, rfl⟩) rfl (by decide) (by decide +kernel) (fun _ => rfl) (Go.stG S2 e2 ?_)
    have z2 : Zr S2 85 := by rw [e2]; exact y11.R (by omega)
    refine Go.aload_n 0 22 rfl dX7_init_21 rfl ?_
    refine Go.iconst (4 : Int32) 23 rfl dX7_init_22 ci_4 ?_
    refine Go.newI (N := 4) 25 86 3 250 rfl rfl rfl rfl dX7_init_23 (by decide +kernel) rfl (by decide) (by decide) z2 (am_mem 109 (by decide +kernel) rfl) (Nat.le_of_ble_eq_true rfl) (by decide) ?_
    have y17 : Zr S2 86 := z2.up (by omega)
    refine Go.putR 28 rfl dX7_init_25 fp_X7_16 (Or.inr ⟨_, rfl⟩) rfl (by decide) (by decide +kernel) (fun _ => rfl) (Go.stG S3 e3 ?_)
    have z3 : Zr S3 86 := by rw [e3]; exact y17.R (by omega)
    refine Go.aload_n 0 29 rfl dX7_init_28 rfl ?_
    refine Go.sipush (320 : Int32) 32 rfl dX7_init_29 cs_320 ?_
    refine Go.newI (N := 320) 34 87 4 570 rfl rfl rfl rfl dX7_init_32 (by decide +kernel) rfl (by decide) (by decide) z3 (am_mem 109 (by decide +kernel) rfl) (Nat.le_of_ble_eq_true rfl) (by decide) ?_
    have y23 : Zr S3 87 := z3.up (by omega)
    refine Go.putR 37 rfl dX7_init_34 fp_X7_19 (Or.inr ⟨_, rfl⟩) rfl (by decide) (by decide +kernel) (fun _ => rfl) (Go.stG S4 e4 ?_)
    have z4 : Zr S4 87 := by rw [e4]; exact y23.R (by omega)
    refine Go.aload_n 0 38 rfl dX7_init_37 rfl ?_
    refine Go.sipush (393 : Int32) 41 rfl dX7_init_38 cs_393 ?_
    refine Go.newI (N := 393) 43 88 5 963 rfl rfl rfl rfl dX7_init_41 (by decide +kernel) rfl (by decide) (by decide) z4 (am_mem 109 (by decide +kernel) rfl) (Nat.le_of_ble_eq_true rfl) (by decide) ?_
    have y29 : Zr S4 88 := z4.up (by omega)
    refine Go.putR 46 rfl dX7_init_43 fp_X7_22 (Or.inr ⟨_, rfl⟩) rfl (by decide) (by decide +kernel) (fun _ => rfl) (Go.stG S5 e5 ?_)
    have z5 : Zr S5 88 := by rw [e5]; exact y29.R (by omega)
    refine Go.aload_n 0 47 rfl dX7_init_46 rfl ?_
    refine Go.sipush (1179 : Int32) 50 rfl dX7_init_47 cs_1179 ?_
    refine Go.newI (N := 1179) 52 89 6 2142 rfl rfl rfl rfl dX7_init_50 (by decide +kernel) rfl (by decide) (by decide) z5 (am_mem 109 (by decide +kernel) rfl) (Nat.le_of_ble_eq_true rfl) (by decide) ?_
    have y35 : Zr S5 89 := z5.up (by omega)
    refine Go.putR 55 rfl dX7_init_52 fp_X7_25 (Or.inr ⟨_, rfl⟩) rfl (by decide) (by decide +kernel) (fun _ => rfl) (Go.stG S6 e6 ?_)
    have z6 : Zr S6 89 := by rw [e6]; exact y35.R (by omega)
    refine Go.aload_n 0 56 rfl dX7_init_55 rfl ?_
    refine Go.iconst (3 : Int32) 57 rfl dX7_init_56 ci_3 ?_
    refine Go.newZ (N := 3) 59 90 7 2145 rfl rfl rfl rfl dX7_init_57 (by decide +kernel) rfl (by decide) (by decide) z6 (am_mem 902 (by decide +kernel) rfl) (Nat.le_of_ble_eq_true rfl) (by decide) ?_
    have y41 : Zr S6 90 := z6.up (by omega)
    refine Go.putR 62 rfl dX7_init_59 fp_X7_28 (Or.inr ⟨_, rfl⟩) rfl (by decide) (by decide +kernel) (fun _ => rfl) (Go.stG S7 e7 ?_)
    have z7 : Zr S7 90 := by rw [e7]; exact y41.R (by omega)
    refine Go.aload_n 0 63 rfl dX7_init_62 rfl ?_
    refine Go.lconst (1 : Int64) 64 rfl dX7_init_63 cl_1 ?_
    refine Go.putL 67 rfl dX7_init_64 fp_X7_32 rfl (by decide) (by decide +kernel) (fun _ => rfl) (Go.stG S8 e8 ?_)
    have z8 : Zr S8 90 := by rw [e8]; exact z7.L (by omega)
    refine Go.aload_n 0 68 rfl dX7_init_67 rfl ?_
    refine Go.bipush (6 : Int32) 70 rfl dX7_init_68 cb_6 ?_
    refine Go.newI (N := 6) 72 91 8 2151 rfl rfl rfl rfl dX7_init_70 (by decide +kernel) rfl (by decide) (by decide) z8 (am_mem 109 (by decide +kernel) rfl) (Nat.le_of_ble_eq_true rfl) (by decide) ?_
    have y51 : Zr S8 91 := z8.up (by omega)
    refine Go.putR 75 rfl dX7_init_72 fp_X7_36 (Or.inr ⟨_, rfl⟩) rfl (by decide) (by decide +kernel) (fun _ => rfl) (Go.stG S9 e9 ?_)
    have z9 : Zr S9 91 := by rw [e9]; exact y51.R (by omega)
    refine Go.aload_n 0 76 rfl dX7_init_75 rfl ?_
    refine Go.sipush (393 : Int32) 79 rfl dX7_init_76 cs_393 ?_
    refine Go.newI (N := 393) 81 92 9 2544 rfl rfl rfl rfl dX7_init_79 (by decide +kernel) rfl (by decide) (by decide) z9 (am_mem 109 (by decide +kernel) rfl) (Nat.le_of_ble_eq_true rfl) (by decide) ?_
    have y57 : Zr S9 92 := z9.up (by omega)
    refine Go.putR 84 rfl dX7_init_81 fp_X7_39 (Or.inr ⟨_, rfl⟩) rfl (by decide) (by decide +kernel) (fun _ => rfl) (Go.stG S10 e10 ?_)
    have z10 : Zr S10 92 := by rw [e10]; exact y57.R (by omega)
    refine Go.aload_n 0 85 rfl dX7_init_84 rfl ?_
    refine Go.bipush (7 : Int32) 87 rfl dX7_init_85 cb_7 ?_
    refine Go.newI (N := 7) 89 93 10 2551 rfl rfl rfl rfl dX7_init_87 (by decide +kernel) rfl (by decide) (by decide) z10 (am_mem 109 (by decide +kernel) rfl) (Nat.le_of_ble_eq_true rfl) (by decide) ?_
    have y63 : Zr S10 93 := z10.up (by omega)
    refine Go.putR 92 rfl dX7_init_89 fp_X7_42 (Or.inr ⟨_, rfl⟩) rfl (by decide) (by decide +kernel) (fun _ => rfl) (Go.stG S11 e11 ?_)
    have z11 : Zr S11 93 := by rw [e11]; exact y63.R (by omega)
    refine Go.aload_n 0 93 rfl dX7_init_92 rfl ?_
    refine Go.bipush (7 : Int32) 95 rfl dX7_init_93 cb_7 ?_
    refine Go.newI (N := 7) 97 94 11 2558 rfl rfl rfl rfl dX7_init_95 (by decide +kernel) rfl (by decide) (by decide) z11 (am_mem 109 (by decide +kernel) rfl) (Nat.le_of_ble_eq_true rfl) (by decide) ?_
    have y69 : Zr S11 94 := z11.up (by omega)
    refine Go.putR 100 rfl dX7_init_97 fp_X7_45 (Or.inr ⟨_, rfl⟩) rfl (by decide) (by decide +kernel) (fun _ => rfl) (Go.stG S12 e12 ?_)
    have z12 : Zr S12 94 := by rw [e12]; exact y69.R (by omega)
    refine Go.aload_n 0 101 rfl dX7_init_100 rfl ?_
    refine Go.bipush (49 : Int32) 103 rfl dX7_init_101 cb_49 ?_
    refine Go.newI (N := 49) 105 95 12 2607 rfl rfl rfl rfl dX7_init_103 (by decide +kernel) rfl (by decide) (by decide) z12 (am_mem 109 (by decide +kernel) rfl) (Nat.le_of_ble_eq_true rfl) (by decide) ?_
    have y75 : Zr S12 95 := z12.up (by omega)
    refine Go.putR 108 rfl dX7_init_105 fp_X7_48 (Or.inr ⟨_, rfl⟩) rfl (by decide) (by decide +kernel) (fun _ => rfl) (Go.stG S13 e13 ?_)
    have z13 : Zr S13 95 := by rw [e13]; exact y75.R (by omega)
    refine Go.aload_n 0 109 rfl dX7_init_108 rfl ?_
    refine Go.sipush (128 : Int32) 112 rfl dX7_init_109 cs_128 ?_
    refine Go.newI (N := 128) 114 96 13 2735 rfl rfl rfl rfl dX7_init_112 (by decide +kernel) rfl (by decide) (by decide) z13 (am_mem 109 (by decide +kernel) rfl) (Nat.le_of_ble_eq_true rfl) (by decide) ?_
    have y81 : Zr S13 96 := z13.up (by omega)
    refine Go.putR 117 rfl dX7_init_114 fp_X7_51 (Or.inr ⟨_, rfl⟩) rfl (by decide) (by decide +kernel) (fun _ => rfl) (Go.stG S14 e14 ?_)
    have z14 : Zr S14 96 := by rw [e14]; exact y81.R (by omega)
    refine Go.aload_n 0 118 rfl dX7_init_117 rfl ?_
    refine Go.sipush (128 : Int32) 121 rfl dX7_init_118 cs_128 ?_
    refine Go.newI (N := 128) 123 97 14 2863 rfl rfl rfl rfl dX7_init_121 (by decide +kernel) rfl (by decide) (by decide) z14 (am_mem 109 (by decide +kernel) rfl) (Nat.le_of_ble_eq_true rfl) (by decide) ?_
    have y87 : Zr S14 97 := z14.up (by omega)
    refine Go.putR 126 rfl dX7_init_123 fp_X7_54 (Or.inr ⟨_, rfl⟩) rfl (by decide) (by decide +kernel) (fun _ => rfl) (Go.stG S15 e15 ?_)
    have z15 : Zr S15 97 := by rw [e15]; exact y87.R (by omega)
    refine Go.iconst (0 : Int32) 127 rfl dX7_init_126 ci_0 ?_
    refine Go.istore_n 128 [(1, .int (0 : Int32)), (0, .ref 82)] rfl dX7_init_127 (by decide) rfl ?_
    refine Go.iload_n 0 129 rfl dX7_init_128 rfl ?_
    refine Go.bipush (6 : Int32) 131 rfl dX7_init_129 cb_6 ?_
    refine Go.icmp_ge 147 134 rfl dX7_init_131 rfl (fun h => absurd h (show ¬ (6 : Int32) ≤ (0 : Int32) by decide)) (fun _ => ?_)
    refine Go.aload_n 1 135 rfl dX7_init_134 rfl ?_
    have q0_1 : S1.2.2 82 0 = some 83 := by rw [e1, stR_at3, if_pos rfl, if_pos rfl]
    have q0_2 : S2.2.2 82 0 = some 83 := by rw [e2, stR_at3, if_pos rfl, if_neg (by decide)]; exact q0_1
    have q0_3 : S3.2.2 82 0 = some 83 := by rw [e3, stR_at3, if_pos rfl, if_neg (by decide)]; exact q0_2
    have q0_4 : S4.2.2 82 0 = some 83 := by rw [e4, stR_at3, if_pos rfl, if_neg (by decide)]; exact q0_3
    have q0_5 : S5.2.2 82 0 = some 83 := by rw [e5, stR_at3, if_pos rfl, if_neg (by decide)]; exact q0_4
    have q0_6 : S6.2.2 82 0 = some 83 := by rw [e6, stR_at3, if_pos rfl, if_neg (by decide)]; exact q0_5
    have q0_7 : S7.2.2 82 0 = some 83 := by rw [e7, stR_at3, if_pos rfl, if_neg (by decide)]; exact q0_6
    have q0_8 : S8.2.2 82 0 = some 83 := by rw [e8, stL_22]; exact q0_7
    have q0_9 : S9.2.2 82 0 = some 83 := by rw [e9, stR_at3, if_pos rfl, if_neg (by decide)]; exact q0_8
    have q0_10 : S10.2.2 82 0 = some 83 := by rw [e10, stR_at3, if_pos rfl, if_neg (by decide)]; exact q0_9
    have q0_11 : S11.2.2 82 0 = some 83 := by rw [e11, stR_at3, if_pos rfl, if_neg (by decide)]; exact q0_10
    have q0_12 : S12.2.2 82 0 = some 83 := by rw [e12, stR_at3, if_pos rfl, if_neg (by decide)]; exact q0_11
    have q0_13 : S13.2.2 82 0 = some 83 := by rw [e13, stR_at3, if_pos rfl, if_neg (by decide)]; exact q0_12
    have q0_14 : S14.2.2 82 0 = some 83 := by rw [e14, stR_at3, if_pos rfl, if_neg (by decide)]; exact q0_13
    have q0_15 : S15.2.2 82 0 = some 83 := by rw [e15, stR_at3, if_pos rfl, if_neg (by decide)]; exact q0_14
    refine Go.getR (k' := 83) 138 rfl dX7_init_135 fl_X7_7 rfl (by decide) (by decide +kernel) q0_15 ?_
    refine Go.iload_n 0 139 rfl dX7_init_138 rfl ?_
    refine Go.iconst (-1 : Int32) 140 rfl dX7_init_139 ci_m1 ?_
    refine Go.iast 141 rfl dX7_init_140 (by decide) (by decide +kernel) (by decide +kernel) (Go.stG S16 e16 ?_)
    have z16 : Zr S16 97 := by rw [e16]; exact z15.I (by omega)
    refine Go.iinc 0 144 (1 : Int32) [(1, .int (1 : Int32)), (0, .ref 82)] rfl dX7_init_141 rfl (by decide) (by decide) rfl ?_
    refine Go.goto 128 dX7_init_144 rfl ?_
    refine Go.iload_n 0 129 rfl dX7_init_128 rfl ?_
    refine Go.bipush (6 : Int32) 131 rfl dX7_init_129 cb_6 ?_
    refine Go.icmp_ge 147 134 rfl dX7_init_131 rfl (fun h => absurd h (show ¬ (6 : Int32) ≤ (1 : Int32) by decide)) (fun _ => ?_)
    refine Go.aload_n 1 135 rfl dX7_init_134 rfl ?_
    have q0_16 : S16.2.2 82 0 = some 83 := by rw [e16, stI_22]; exact q0_15
    refine Go.getR (k' := 83) 138 rfl dX7_init_135 fl_X7_7 rfl (by decide) (by decide +kernel) q0_16 ?_
    refine Go.iload_n 0 139 rfl dX7_init_138 rfl ?_
    refine Go.iconst (-1 : Int32) 140 rfl dX7_init_139 ci_m1 ?_
    refine Go.iast 141 rfl dX7_init_140 (by decide) (by decide +kernel) (by decide +kernel) (Go.stG S17 e17 ?_)
    have z17 : Zr S17 97 := by rw [e17]; exact z16.I (by omega)
    refine Go.iinc 0 144 (2 : Int32) [(1, .int (2 : Int32)), (0, .ref 82)] rfl dX7_init_141 rfl (by decide) (by decide) rfl ?_
    refine Go.goto 128 dX7_init_144 rfl ?_
    refine Go.iload_n 0 129 rfl dX7_init_128 rfl ?_
    refine Go.bipush (6 : Int32) 131 rfl dX7_init_129 cb_6 ?_
    refine Go.icmp_ge 147 134 rfl dX7_init_131 rfl (fun h => absurd h (show ¬ (6 : Int32) ≤ (2 : Int32) by decide)) (fun _ => ?_)
    refine Go.aload_n 1 135 rfl dX7_init_134 rfl ?_
    have q0_17 : S17.2.2 82 0 = some 83 := by rw [e17, stI_22]; exact q0_16
    refine Go.getR (k' := 83) 138 rfl dX7_init_135 fl_X7_7 rfl (by decide) (by decide +kernel) q0_17 ?_
    refine Go.iload_n 0 139 rfl dX7_init_138 rfl ?_
    refine Go.iconst (-1 : Int32) 140 rfl dX7_init_139 ci_m1 ?_
    refine Go.iast 141 rfl dX7_init_140 (by decide) (by decide +kernel) (by decide +kernel) (Go.stG S18 e18 ?_)
    have z18 : Zr S18 97 := by rw [e18]; exact z17.I (by omega)
    refine Go.iinc 0 144 (3 : Int32) [(1, .int (3 : Int32)), (0, .ref 82)] rfl dX7_init_141 rfl (by decide) (by decide) rfl ?_
    refine Go.goto 128 dX7_init_144 rfl ?_
    refine Go.iload_n 0 129 rfl dX7_init_128 rfl ?_
    refine Go.bipush (6 : Int32) 131 rfl dX7_init_129 cb_6 ?_
    refine Go.icmp_ge 147 134 rfl dX7_init_131 rfl (fun h => absurd h (show ¬ (6 : Int32) ≤ (3 : Int32) by decide)) (fun _ => ?_)
    refine Go.aload_n 1 135 rfl dX7_init_134 rfl ?_
    have q0_18 : S18.2.2 82 0 = some 83 := by rw [e18, stI_22]; exact q0_17
    refine Go.getR (k' := 83) 138 rfl dX7_init_135 fl_X7_7 rfl (by decide) (by decide +kernel) q0_18 ?_
    refine Go.iload_n 0 139 rfl dX7_init_138 rfl ?_
    refine Go.iconst (-1 : Int32) 140 rfl dX7_init_139 ci_m1 ?_
    refine Go.iast 141 rfl dX7_init_140 (by decide) (by decide +kernel) (by decide +kernel) (Go.stG S19 e19 ?_)
    have z19 : Zr S19 97 := by rw [e19]; exact z18.I (by omega)
    refine Go.iinc 0 144 (4 : Int32) [(1, .int (4 : Int32)), (0, .ref 82)] rfl dX7_init_141 rfl (by decide) (by decide) rfl ?_
    refine Go.goto 128 dX7_init_144 rfl ?_
    refine Go.iload_n 0 129 rfl dX7_init_128 rfl ?_
    refine Go.bipush (6 : Int32) 131 rfl dX7_init_129 cb_6 ?_
    refine Go.icmp_ge 147 134 rfl dX7_init_131 rfl (fun h => absurd h (show ¬ (6 : Int32) ≤ (4 : Int32) by decide)) (fun _ => ?_)
    refine Go.aload_n 1 135 rfl dX7_init_134 rfl ?_
    have q0_19 : S19.2.2 82 0 = some 83 := by rw [e19, stI_22]; exact q0_18
    refine Go.getR (k' := 83) 138 rfl dX7_init_135 fl_X7_7 rfl (by decide) (by decide +kernel) q0_19 ?_
    refine Go.iload_n 0 139 rfl dX7_init_138 rfl ?_
    refine Go.iconst (-1 : Int32) 140 rfl dX7_init_139 ci_m1 ?_
    refine Go.iast 141 rfl dX7_init_140 (by decide) (by decide +kernel) (by decide +kernel) (Go.stG S20 e20 ?_)
    have z20 : Zr S20 97 := by rw [e20]; exact z19.I (by omega)
    refine Go.iinc 0 144 (5 : Int32) [(1, .int (5 : Int32)), (0, .ref 82)] rfl dX7_init_141 rfl (by decide) (by decide) rfl ?_
    refine Go.goto 128 dX7_init_144 rfl ?_
    refine Go.iload_n 0 129 rfl dX7_init_128 rfl ?_
    refine Go.bipush (6 : Int32) 131 rfl dX7_init_129 cb_6 ?_
    refine Go.icmp_ge 147 134 rfl dX7_init_131 rfl (fun h => absurd h (show ¬ (6 : Int32) ≤ (5 : Int32) by decide)) (fun _ => ?_)
    refine Go.aload_n 1 135 rfl dX7_init_134 rfl ?_
    have q0_20 : S20.2.2 82 0 = some 83 := by rw [e20, stI_22]; exact q0_19
    refine Go.getR (k' := 83) 138 rfl dX7_init_135 fl_X7_7 rfl (by decide) (by decide +kernel) q0_20 ?_
    refine Go.iload_n 0 139 rfl dX7_init_138 rfl ?_
    refine Go.iconst (-1 : Int32) 140 rfl dX7_init_139 ci_m1 ?_
    refine Go.iast 141 rfl dX7_init_140 (by decide) (by decide +kernel) (by decide +kernel) (Go.stG S21 e21 ?_)
    have z21 : Zr S21 97 := by rw [e21]; exact z20.I (by omega)
    refine Go.iinc 0 144 (6 : Int32) [(1, .int (6 : Int32)), (0, .ref 82)] rfl dX7_init_141 rfl (by decide) (by decide) rfl ?_
    refine Go.goto 128 dX7_init_144 rfl ?_
    refine Go.iload_n 0 129 rfl dX7_init_128 rfl ?_
    refine Go.bipush (6 : Int32) 131 rfl dX7_init_129 cb_6 ?_
    refine Go.icmp_ge 147 134 rfl dX7_init_131 rfl (fun _ => ?_) (fun h => absurd (show (6 : Int32) ≤ (6 : Int32) by decide) h)
    refine Go.iconst (0 : Int32) 148 rfl dX7_init_147 ci_0 ?_
    refine Go.istore_n 149 [(1, .int (0 : Int32)), (0, .ref 82)] rfl dX7_init_148 (by decide) rfl ?_
    refine Go.iload_n 0 150 rfl dX7_init_149 rfl ?_
    refine Go.iconst (4 : Int32) 151 rfl dX7_init_150 ci_4 ?_
    refine Go.icmp_ge 167 154 rfl dX7_init_151 rfl (fun h => absurd h (show ¬ (4 : Int32) ≤ (0 : Int32) by decide)) (fun _ => ?_)
    refine Go.aload_n 1 155 rfl dX7_init_154 rfl ?_
    have q2_3 : S3.2.2 82 2 = some 85 := by rw [e3, stR_at3, if_pos rfl, if_pos rfl]
    have q2_4 : S4.2.2 82 2 = some 85 := by rw [e4, stR_at3, if_pos rfl, if_neg (by decide)]; exact q2_3
    have q2_5 : S5.2.2 82 2 = some 85 := by rw [e5, stR_at3, if_pos rfl, if_neg (by decide)]; exact q2_4
    have q2_6 : S6.2.2 82 2 = some 85 := by rw [e6, stR_at3, if_pos rfl, if_neg (by decide)]; exact q2_5
    have q2_7 : S7.2.2 82 2 = some 85 := by rw [e7, stR_at3, if_pos rfl, if_neg (by decide)]; exact q2_6
    have q2_8 : S8.2.2 82 2 = some 85 := by rw [e8, stL_22]; exact q2_7
    have q2_9 : S9.2.2 82 2 = some 85 := by rw [e9, stR_at3, if_pos rfl, if_neg (by decide)]; exact q2_8
    have q2_10 : S10.2.2 82 2 = some 85 := by rw [e10, stR_at3, if_pos rfl, if_neg (by decide)]; exact q2_9
    have q2_11 : S11.2.2 82 2 = some 85 := by rw [e11, stR_at3, if_pos rfl, if_neg (by decide)]; exact q2_10
    have q2_12 : S12.2.2 82 2 = some 85 := by rw [e12, stR_at3, if_pos rfl, if_neg (by decide)]; exact q2_11
    have q2_13 : S13.2.2 82 2 = some 85 := by rw [e13, stR_at3, if_pos rfl, if_neg (by decide)]; exact q2_12
    have q2_14 : S14.2.2 82 2 = some 85 := by rw [e14, stR_at3, if_pos rfl, if_neg (by decide)]; exact q2_13
    have q2_15 : S15.2.2 82 2 = some 85 := by rw [e15, stR_at3, if_pos rfl, if_neg (by decide)]; exact q2_14
    have q2_16 : S16.2.2 82 2 = some 85 := by rw [e16, stI_22]; exact q2_15
    have q2_17 : S17.2.2 82 2 = some 85 := by rw [e17, stI_22]; exact q2_16
    have q2_18 : S18.2.2 82 2 = some 85 := by rw [e18, stI_22]; exact q2_17
    have q2_19 : S19.2.2 82 2 = some 85 := by rw [e19, stI_22]; exact q2_18
    have q2_20 : S20.2.2 82 2 = some 85 := by rw [e20, stI_22]; exact q2_19
    have q2_21 : S21.2.2 82 2 = some 85 := by rw [e21, stI_22]; exact q2_20
    refine Go.getR (k' := 85) 158 rfl dX7_init_155 fl_X7_16 rfl (by decide) (by decide +kernel) q2_21 ?_
    refine Go.iload_n 0 159 rfl dX7_init_158 rfl ?_
    refine Go.iconst (-1 : Int32) 160 rfl dX7_init_159 ci_m1 ?_
    refine Go.iast 161 rfl dX7_init_160 (by decide) (by decide +kernel) (by decide +kernel) (Go.stG S22 e22 ?_)
    have z22 : Zr S22 97 := by rw [e22]; exact z21.I (by omega)
    refine Go.iinc 0 164 (1 : Int32) [(1, .int (1 : Int32)), (0, .ref 82)] rfl dX7_init_161 rfl (by decide) (by decide) rfl ?_
    refine Go.goto 149 dX7_init_164 rfl ?_
    refine Go.iload_n 0 150 rfl dX7_init_149 rfl ?_
    refine Go.iconst (4 : Int32) 151 rfl dX7_init_150 ci_4 ?_
    refine Go.icmp_ge 167 154 rfl dX7_init_151 rfl (fun h => absurd h (show ¬ (4 : Int32) ≤ (1 : Int32) by decide)) (fun _ => ?_)
    refine Go.aload_n 1 155 rfl dX7_init_154 rfl ?_
    have q2_22 : S22.2.2 82 2 = some 85 := by rw [e22, stI_22]; exact q2_21
    refine Go.getR (k' := 85) 158 rfl dX7_init_155 fl_X7_16 rfl (by decide) (by decide +kernel) q2_22 ?_
    refine Go.iload_n 0 159 rfl dX7_init_158 rfl ?_
    refine Go.iconst (-1 : Int32) 160 rfl dX7_init_159 ci_m1 ?_
    refine Go.iast 161 rfl dX7_init_160 (by decide) (by decide +kernel) (by decide +kernel) (Go.stG S23 e23 ?_)
    have z23 : Zr S23 97 := by rw [e23]; exact z22.I (by omega)
    refine Go.iinc 0 164 (2 : Int32) [(1, .int (2 : Int32)), (0, .ref 82)] rfl dX7_init_161 rfl (by decide) (by decide) rfl ?_
    refine Go.goto 149 dX7_init_164 rfl ?_
    refine Go.iload_n 0 150 rfl dX7_init_149 rfl ?_
    refine Go.iconst (4 : Int32) 151 rfl dX7_init_150 ci_4 ?_
    refine Go.icmp_ge 167 154 rfl dX7_init_151 rfl (fun h => absurd h (show ¬ (4 : Int32) ≤ (2 : Int32) by decide)) (fun _ => ?_)
    refine Go.aload_n 1 155 rfl dX7_init_154 rfl ?_
    have q2_23 : S23.2.2 82 2 = some 85 := by rw [e23, stI_22]; exact q2_22
    refine Go.getR (k' := 85) 158 rfl dX7_init_155 fl_X7_16 rfl (by decide) (by decide +kernel) q2_23 ?_
    refine Go.iload_n 0 159 rfl dX7_init_158 rfl ?_
    refine Go.iconst (-1 : Int32) 160 rfl dX7_init_159 ci_m1 ?_
    refine Go.iast 161 rfl dX7_init_160 (by decide) (by decide +kernel) (by decide +kernel) (Go.stG S24 e24 ?_)
    have z24 : Zr S24 97 := by rw [e24]; exact z23.I (by omega)
    refine Go.iinc 0 164 (3 : Int32) [(1, .int (3 : Int32)), (0, .ref 82)] rfl dX7_init_161 rfl (by decide) (by decide) rfl ?_
    refine Go.goto 149 dX7_init_164 rfl ?_
    refine Go.iload_n 0 150 rfl dX7_init_149 rfl ?_
    refine Go.iconst (4 : Int32) 151 rfl dX7_init_150 ci_4 ?_
    refine Go.icmp_ge 167 154 rfl dX7_init_151 rfl (fun h => absurd h (show ¬ (4 : Int32) ≤ (3 : Int32) by decide)) (fun _ => ?_)
    refine Go.aload_n 1 155 rfl dX7_init_154 rfl ?_
    have q2_24 : S24.2.2 82 2 = some 85 := by rw [e24, stI_22]; exact q2_23
    refine Go.getR (k' := 85) 158 rfl dX7_init_155 fl_X7_16 rfl (by decide) (by decide +kernel) q2_24 ?_
    refine Go.iload_n 0 159 rfl dX7_init_158 rfl ?_
    refine Go.iconst (-1 : Int32) 160 rfl dX7_init_159 ci_m1 ?_
    refine Go.iast 161 rfl dX7_init_160 (by decide) (by decide +kernel) (by decide +kernel) (Go.stG S25 e25 ?_)
    have z25 : Zr S25 97 := by rw [e25]; exact z24.I (by omega)
    refine Go.iinc 0 164 (4 : Int32) [(1, .int (4 : Int32)), (0, .ref 82)] rfl dX7_init_161 rfl (by decide) (by decide) rfl ?_
    refine Go.goto 149 dX7_init_164 rfl ?_
    refine Go.iload_n 0 150 rfl dX7_init_149 rfl ?_
    refine Go.iconst (4 : Int32) 151 rfl dX7_init_150 ci_4 ?_
    refine Go.icmp_ge 167 154 rfl dX7_init_151 rfl (fun _ => ?_) (fun h => absurd (show (4 : Int32) ≤ (4 : Int32) by decide) h)
    exact Go.vret rfl dX7_init_167
  · refine ⟨fun a ha => ⟨?_, ?_, ?_⟩, ?_, fun r hr => ?_, fun r hr => ?_, ?_, ?_, fun f => ?_, ?_, ?_, fun i => ?_, fun i => ?_⟩
    · rw [e25, stI_ne (by omega), e24, stI_ne (by omega), e23, stI_ne (by omega), e22, stI_ne (by omega), e21, stI_ne (by omega), e20, stI_ne (by omega), e19, stI_ne (by omega), e18, stI_ne (by omega), e17, stI_ne (by omega), e16, stI_ne (by omega), e15, stR_1, e14, stR_1, e13, stR_1, e12, stR_1, e11, stR_1, e10, stR_1, e9, stR_1, e8, stL_1, e7, stR_1, e6, stR_1, e5, stR_1, e4, stR_1, e3, stR_1, e2, stR_1, e1, stR_1]
    · funext j
      rw [e25, stI_21]
      rw [e24, stI_21]
      rw [e23, stI_21]
      rw [e22, stI_21]
      rw [e21, stI_21]
      rw [e20, stI_21]
      rw [e19, stI_21]
      rw [e18, stI_21]
      rw [e17, stI_21]
      rw [e16, stI_21]
      rw [e15, stR_21]
      rw [e14, stR_21]
      rw [e13, stR_21]
      rw [e12, stR_21]
      rw [e11, stR_21]
      rw [e10, stR_21]
      rw [e9, stR_21]
      rw [e8, stL_at, if_neg (by omega)]
      rw [e7, stR_21]
      rw [e6, stR_21]
      rw [e5, stR_21]
      rw [e4, stR_21]
      rw [e3, stR_21]
      rw [e2, stR_21]
      rw [e1, stR_21]
    · rw [e25, stI_22, e24, stI_22, e23, stI_22, e22, stI_22, e21, stI_22, e20, stI_22, e19, stI_22, e18, stI_22, e17, stI_22, e16, stI_22, e15, stR_ne (by omega), e14, stR_ne (by omega), e13, stR_ne (by omega), e12, stR_ne (by omega), e11, stR_ne (by omega), e10, stR_ne (by omega), e9, stR_ne (by omega), e8, stL_22, e7, stR_ne (by omega), e6, stR_ne (by omega), e5, stR_ne (by omega), e4, stR_ne (by omega), e3, stR_ne (by omega), e2, stR_ne (by omega), e1, stR_ne (by omega)]
    · rw [e25, stI_22, e24, stI_22, e23, stI_22, e22, stI_22, e21, stI_22, e20, stI_22, e19, stI_22, e18, stI_22, e17, stI_22, e16, stI_22, e15, stR_self, e14, stR_self, e13, stR_self, e12, stR_self, e11, stR_self, e10, stR_self, e9, stR_self, e8, stL_22, e7, stR_self, e6, stR_self, e5, stR_self, e4, stR_self, e3, stR_self, e2, stR_self, e1, stR_self, show S.2.2 82 = fun _ => none from funext (hz 82 (by omega)).2.2]
      exact up_hm
    · rcases (show r = 0 ∨ r = 1 ∨ r = 2 ∨ r = 3 ∨ r = 4 ∨ r = 5 by omega) with rfl | rfl | rfl | rfl | rfl | rfl
      · rw [e25, stI_ne (by decide), e24, stI_ne (by decide), e23, stI_ne (by decide), e22, stI_ne (by decide), e21, stI_at, if_pos rfl, if_neg (by decide), e20, stI_at, if_pos rfl, if_neg (by decide), e19, stI_at, if_pos rfl, if_neg (by decide), e18, stI_at, if_pos rfl, if_neg (by decide), e17, stI_at, if_pos rfl, if_neg (by decide), e16, stI_at, if_pos rfl, if_pos rfl]
      · rw [e25, stI_ne (by decide), e24, stI_ne (by decide), e23, stI_ne (by decide), e22, stI_ne (by decide), e21, stI_at, if_pos rfl, if_neg (by decide), e20, stI_at, if_pos rfl, if_neg (by decide), e19, stI_at, if_pos rfl, if_neg (by decide), e18, stI_at, if_pos rfl, if_neg (by decide), e17, stI_at, if_pos rfl, if_pos rfl]
      · rw [e25, stI_ne (by decide), e24, stI_ne (by decide), e23, stI_ne (by decide), e22, stI_ne (by decide), e21, stI_at, if_pos rfl, if_neg (by decide), e20, stI_at, if_pos rfl, if_neg (by decide), e19, stI_at, if_pos rfl, if_neg (by decide), e18, stI_at, if_pos rfl, if_pos rfl]
      · rw [e25, stI_ne (by decide), e24, stI_ne (by decide), e23, stI_ne (by decide), e22, stI_ne (by decide), e21, stI_at, if_pos rfl, if_neg (by decide), e20, stI_at, if_pos rfl, if_neg (by decide), e19, stI_at, if_pos rfl, if_pos rfl]
      · rw [e25, stI_ne (by decide), e24, stI_ne (by decide), e23, stI_ne (by decide), e22, stI_ne (by decide), e21, stI_at, if_pos rfl, if_neg (by decide), e20, stI_at, if_pos rfl, if_pos rfl]
      · rw [e25, stI_ne (by decide), e24, stI_ne (by decide), e23, stI_ne (by decide), e22, stI_ne (by decide), e21, stI_at, if_pos rfl, if_pos rfl]
    · rcases (show r = 0 ∨ r = 1 ∨ r = 2 ∨ r = 3 by omega) with rfl | rfl | rfl | rfl
      · rw [e25, stI_at, if_pos rfl, if_neg (by decide), e24, stI_at, if_pos rfl, if_neg (by decide), e23, stI_at, if_pos rfl, if_neg (by decide), e22, stI_at, if_pos rfl, if_pos rfl]
      · rw [e25, stI_at, if_pos rfl, if_neg (by decide), e24, stI_at, if_pos rfl, if_neg (by decide), e23, stI_at, if_pos rfl, if_pos rfl]
      · rw [e25, stI_at, if_pos rfl, if_neg (by decide), e24, stI_at, if_pos rfl, if_pos rfl]
      · rw [e25, stI_at, if_pos rfl, if_pos rfl]
    · rw [e25, stI_ne (by decide), e24, stI_ne (by decide), e23, stI_ne (by decide), e22, stI_ne (by decide), e21, stI_ne (by decide), e20, stI_ne (by decide), e19, stI_ne (by decide), e18, stI_ne (by decide), e17, stI_ne (by decide), e16, stI_ne (by decide), e15, stR_1, e14, stR_1, e13, stR_1, e12, stR_1, e11, stR_1, e10, stR_1, e9, stR_1, e8, stL_1, e7, stR_1, e6, stR_1, e5, stR_1, e4, stR_1, e3, stR_1, e2, stR_1, e1, stR_1]; exact (hz 82 (by omega)).1 _
    · rw [e25, stI_ne (by decide), e24, stI_ne (by decide), e23, stI_ne (by decide), e22, stI_ne (by decide), e21, stI_ne (by decide), e20, stI_ne (by decide), e19, stI_ne (by decide), e18, stI_ne (by decide), e17, stI_ne (by decide), e16, stI_ne (by decide), e15, stR_1, e14, stR_1, e13, stR_1, e12, stR_1, e11, stR_1, e10, stR_1, e9, stR_1, e8, stL_1, e7, stR_1, e6, stR_1, e5, stR_1, e4, stR_1, e3, stR_1, e2, stR_1, e1, stR_1]; exact (hz 82 (by omega)).1 _
    · rw [e25, stI_ne (by decide), e24, stI_ne (by decide), e23, stI_ne (by decide), e22, stI_ne (by decide), e21, stI_ne (by decide), e20, stI_ne (by decide), e19, stI_ne (by decide), e18, stI_ne (by decide), e17, stI_ne (by decide), e16, stI_ne (by decide), e15, stR_1, e14, stR_1, e13, stR_1, e12, stR_1, e11, stR_1, e10, stR_1, e9, stR_1, e8, stL_1, e7, stR_1, e6, stR_1, e5, stR_1, e4, stR_1, e3, stR_1, e2, stR_1, e1, stR_1]; exact (hz 90 (by omega)).1 _
    · rw [e25, stI_21, e24, stI_21, e23, stI_21, e22, stI_21, e21, stI_21, e20, stI_21, e19, stI_21, e18, stI_21, e17, stI_21, e16, stI_21, e15, stR_21, e14, stR_21, e13, stR_21, e12, stR_21, e11, stR_21, e10, stR_21, e9, stR_21, e8, stL_at, if_pos rfl, if_neg (by decide), e7, stR_21, e6, stR_21, e5, stR_21, e4, stR_21, e3, stR_21, e2, stR_21, e1, stR_21]; exact (hz 82 (by omega)).2.1 _
    · rw [e25, stI_21, e24, stI_21, e23, stI_21, e22, stI_21, e21, stI_21, e20, stI_21, e19, stI_21, e18, stI_21, e17, stI_21, e16, stI_21, e15, stR_21, e14, stR_21, e13, stR_21, e12, stR_21, e11, stR_21, e10, stR_21, e9, stR_21, e8, stL_at, if_pos rfl, if_pos rfl]
    · rw [e25, stI_ne (by decide), e24, stI_ne (by decide), e23, stI_ne (by decide), e22, stI_ne (by decide), e21, stI_ne (by decide), e20, stI_ne (by decide), e19, stI_ne (by decide), e18, stI_ne (by decide), e17, stI_ne (by decide), e16, stI_ne (by decide), e15, stR_1, e14, stR_1, e13, stR_1, e12, stR_1, e11, stR_1, e10, stR_1, e9, stR_1, e8, stL_1, e7, stR_1, e6, stR_1, e5, stR_1, e4, stR_1, e3, stR_1, e2, stR_1, e1, stR_1]; exact (hz 89 (by omega)).1 _
    · rw [e25, stI_ne (by decide), e24, stI_ne (by decide), e23, stI_ne (by decide), e22, stI_ne (by decide), e21, stI_ne (by decide), e20, stI_ne (by decide), e19, stI_ne (by decide), e18, stI_ne (by decide), e17, stI_ne (by decide), e16, stI_ne (by decide), e15, stR_1, e14, stR_1, e13, stR_1, e12, stR_1, e11, stR_1, e10, stR_1, e9, stR_1, e8, stL_1, e7, stR_1, e6, stR_1, e5, stR_1, e4, stR_1, e3, stR_1, e2, stR_1, e1, stR_1]; exact (hz 87 (by omega)).1 _
