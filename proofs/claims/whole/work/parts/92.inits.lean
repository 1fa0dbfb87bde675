/-! constructors: what they make (written by program). -/
def rmK (f c s : Nat) : Room := { frames := f, cells := c, slots := s, locals := 64 * f }
theorem stR_at3 (S : aSt) (k j : Nat) (v : Option Nat) (a b : Nat) : (stR S k j v).2.2 a b = if a = k then (if b = j then v else S.2.2 a b) else S.2.2 a b := by
  unfold stR
  by_cases h : a = k
  · subst h
    simp [va_up]
  · simp [h]
theorem dX5_init_0 : decode cX5_init 0 = .ok (.aload_n 0, 1) := by decide +kernel
theorem dX5_init_1 : decode cX5_init 1 = .ok (.invokespecial 3, 3) := by decide +kernel
theorem dX5_init_4 : decode cX5_init 4 = .ok (.aload_n 0, 1) := by decide +kernel
theorem dX5_init_5 : decode cX5_init 5 = .ok (.bipush 7, 2) := by decide +kernel
theorem dX5_init_7 : decode cX5_init 7 = .ok (.newarray .int, 2) := by decide +kernel
theorem dX5_init_9 : decode cX5_init 9 = .ok (.putfield 9, 3) := by decide +kernel
theorem dX5_init_12 : decode cX5_init 12 = .ok (.aload_n 0, 1) := by decide +kernel
theorem dX5_init_13 : decode cX5_init 13 = .ok (.bipush 7, 2) := by decide +kernel
theorem dX5_init_15 : decode cX5_init 15 = .ok (.newarray .int, 2) := by decide +kernel
theorem dX5_init_17 : decode cX5_init 17 = .ok (.putfield 15, 3) := by decide +kernel
theorem dX5_init_20 : decode cX5_init 20 = .ok (.aload_n 0, 1) := by decide +kernel
theorem dX5_init_21 : decode cX5_init 21 = .ok (.bipush 7, 2) := by decide +kernel
theorem dX5_init_23 : decode cX5_init 23 = .ok (.newarray .int, 2) := by decide +kernel
theorem dX5_init_25 : decode cX5_init 25 = .ok (.putfield 18, 3) := by decide +kernel
theorem dX5_init_28 : decode cX5_init 28 = .ok (.aload_n 0, 1) := by decide +kernel
theorem dX5_init_29 : decode cX5_init 29 = .ok (.bipush 7, 2) := by decide +kernel
theorem dX5_init_31 : decode cX5_init 31 = .ok (.newarray .int, 2) := by decide +kernel
theorem dX5_init_33 : decode cX5_init 33 = .ok (.putfield 21, 3) := by decide +kernel
theorem dX5_init_36 : decode cX5_init 36 = .ok (.aload_n 0, 1) := by decide +kernel
theorem dX5_init_37 : decode cX5_init 37 = .ok (.bipush 40, 2) := by decide +kernel
theorem dX5_init_39 : decode cX5_init 39 = .ok (.newarray .int, 2) := by decide +kernel
theorem dX5_init_41 : decode cX5_init 41 = .ok (.putfield 24, 3) := by decide +kernel
theorem dX5_init_44 : decode cX5_init 44 = .ok (.aload_n 0, 1) := by decide +kernel
theorem dX5_init_45 : decode cX5_init 45 = .ok (.sipush 280, 3) := by decide +kernel
theorem dX5_init_48 : decode cX5_init 48 = .ok (.newarray .int, 2) := by decide +kernel
theorem dX5_init_50 : decode cX5_init 50 = .ok (.putfield 27, 3) := by decide +kernel
theorem dX5_init_53 : decode cX5_init 53 = .ok (.aload_n 0, 1) := by decide +kernel
theorem dX5_init_54 : decode cX5_init 54 = .ok (.iconst (-1), 1) := by decide +kernel
theorem dX5_init_55 : decode cX5_init 55 = .ok (.putfield 30, 3) := by decide +kernel
theorem dX5_init_58 : decode cX5_init 58 = .ok (.return_, 1) := by decide +kernel
theorem dX4_init_0 : decode cX4_init 0 = .ok (.aload_n 0, 1) := by decide +kernel
theorem dX4_init_1 : decode cX4_init 1 = .ok (.invokespecial 3, 3) := by decide +kernel
theorem dX4_init_4 : decode cX4_init 4 = .ok (.aload_n 0, 1) := by decide +kernel
theorem dX4_init_5 : decode cX4_init 5 = .ok (.iconst (-1), 1) := by decide +kernel
theorem dX4_init_6 : decode cX4_init 6 = .ok (.putfield 9, 3) := by decide +kernel
theorem dX4_init_9 : decode cX4_init 9 = .ok (.aload_n 0, 1) := by decide +kernel
theorem dX4_init_10 : decode cX4_init 10 = .ok (.iload_n 1, 1) := by decide +kernel
theorem dX4_init_11 : decode cX4_init 11 = .ok (.iconst 0, 1) := by decide +kernel
theorem dX4_init_12 : decode cX4_init 12 = .ok (.invokestatic 15, 3) := by decide +kernel
theorem dX4_init_15 : decode cX4_init 15 = .ok (.newarray .int, 2) := by decide +kernel
theorem dX4_init_17 : decode cX4_init 17 = .ok (.putfield 21, 3) := by decide +kernel
theorem dX4_init_20 : decode cX4_init 20 = .ok (.return_, 1) := by decide +kernel
theorem dX2_init_0 : decode cX2_init 0 = .ok (.aload_n 0, 1) := by decide +kernel
theorem dX2_init_1 : decode cX2_init 1 = .ok (.invokespecial 3, 3) := by decide +kernel
theorem dX2_init_4 : decode cX2_init 4 = .ok (.aload_n 0, 1) := by decide +kernel
theorem dX2_init_5 : decode cX2_init 5 = .ok (.bipush 7, 2) := by decide +kernel
theorem dX2_init_7 : decode cX2_init 7 = .ok (.newarray .int, 2) := by decide +kernel
theorem dX2_init_9 : decode cX2_init 9 = .ok (.putfield 9, 3) := by decide +kernel
theorem dX2_init_12 : decode cX2_init 12 = .ok (.aload_n 0, 1) := by decide +kernel
theorem dX2_init_13 : decode cX2_init 13 = .ok (.sipush 1024, 3) := by decide +kernel
theorem dX2_init_16 : decode cX2_init 16 = .ok (.newarray .int, 2) := by decide +kernel
theorem dX2_init_18 : decode cX2_init 18 = .ok (.putfield 15, 3) := by decide +kernel
theorem dX2_init_21 : decode cX2_init 21 = .ok (.aload_n 0, 1) := by decide +kernel
theorem dX2_init_22 : decode cX2_init 22 = .ok (.sipush 1024, 3) := by decide +kernel
theorem dX2_init_25 : decode cX2_init 25 = .ok (.newarray .int, 2) := by decide +kernel
theorem dX2_init_27 : decode cX2_init 27 = .ok (.putfield 18, 3) := by decide +kernel
theorem dX2_init_30 : decode cX2_init 30 = .ok (.aload_n 0, 1) := by decide +kernel
theorem dX2_init_31 : decode cX2_init 31 = .ok (.iconst 0, 1) := by decide +kernel
theorem dX2_init_32 : decode cX2_init 32 = .ok (.putfield 21, 3) := by decide +kernel
theorem dX2_init_35 : decode cX2_init 35 = .ok (.aload_n 0, 1) := by decide +kernel
theorem dX2_init_36 : decode cX2_init 36 = .ok (.iconst 0, 1) := by decide +kernel
theorem dX2_init_37 : decode cX2_init 37 = .ok (.putfield 25, 3) := by decide +kernel
theorem dX2_init_40 : decode cX2_init 40 = .ok (.aload_n 0, 1) := by decide +kernel
theorem dX2_init_41 : decode cX2_init 41 = .ok (.iconst 1, 1) := by decide +kernel
theorem dX2_init_42 : decode cX2_init 42 = .ok (.putfield 28, 3) := by decide +kernel
theorem dX2_init_45 : decode cX2_init 45 = .ok (.aload_n 0, 1) := by decide +kernel
theorem dX2_init_46 : decode cX2_init 46 = .ok (.iconst 0, 1) := by decide +kernel
theorem dX2_init_47 : decode cX2_init 47 = .ok (.putfield 31, 3) := by decide +kernel
theorem dX2_init_50 : decode cX2_init 50 = .ok (.aload_n 0, 1) := by decide +kernel
theorem dX2_init_51 : decode cX2_init 51 = .ok (.iconst 1, 1) := by decide +kernel
theorem dX2_init_52 : decode cX2_init 52 = .ok (.putfield 34, 3) := by decide +kernel
theorem dX2_init_55 : decode cX2_init 55 = .ok (.return_, 1) := by decide +kernel
theorem dX3_init_0 : decode cX3_init 0 = .ok (.aload_n 0, 1) := by decide +kernel
theorem dX3_init_1 : decode cX3_init 1 = .ok (.invokespecial 3, 3) := by decide +kernel
theorem dX3_init_4 : decode cX3_init 4 = .ok (.aload_n 0, 1) := by decide +kernel
theorem dX3_init_5 : decode cX3_init 5 = .ok (.bipush 10, 2) := by decide +kernel
theorem dX3_init_7 : decode cX3_init 7 = .ok (.newarray .int, 2) := by decide +kernel
theorem dX3_init_9 : decode cX3_init 9 = .ok (.putfield 9, 3) := by decide +kernel
theorem dX3_init_12 : decode cX3_init 12 = .ok (.aload_n 0, 1) := by decide +kernel
theorem dX3_init_13 : decode cX3_init 13 = .ok (.bipush 7, 2) := by decide +kernel
theorem dX3_init_15 : decode cX3_init 15 = .ok (.newarray .int, 2) := by decide +kernel
theorem dX3_init_17 : decode cX3_init 17 = .ok (.putfield 15, 3) := by decide +kernel
theorem dX3_init_20 : decode cX3_init 20 = .ok (.aload_n 0, 1) := by decide +kernel
theorem dX3_init_21 : decode cX3_init 21 = .ok (.sipush 128, 3) := by decide +kernel
theorem dX3_init_24 : decode cX3_init 24 = .ok (.newarray .int, 2) := by decide +kernel
theorem dX3_init_26 : decode cX3_init 26 = .ok (.putfield 18, 3) := by decide +kernel
theorem dX3_init_29 : decode cX3_init 29 = .ok (.aload_n 0, 1) := by decide +kernel
theorem dX3_init_30 : decode cX3_init 30 = .ok (.bipush (-9), 2) := by decide +kernel
theorem dX3_init_32 : decode cX3_init 32 = .ok (.putfield 21, 3) := by decide +kernel
theorem dX3_init_35 : decode cX3_init 35 = .ok (.aload_n 0, 1) := by decide +kernel
theorem dX3_init_36 : decode cX3_init 36 = .ok (.iconst 0, 1) := by decide +kernel
theorem dX3_init_37 : decode cX3_init 37 = .ok (.putfield 25, 3) := by decide +kernel
theorem dX3_init_40 : decode cX3_init 40 = .ok (.aload_n 0, 1) := by decide +kernel
theorem dX3_init_41 : decode cX3_init 41 = .ok (.iconst 0, 1) := by decide +kernel
theorem dX3_init_42 : decode cX3_init 42 = .ok (.putfield 28, 3) := by decide +kernel
theorem dX3_init_45 : decode cX3_init 45 = .ok (.aload_n 0, 1) := by decide +kernel
theorem dX3_init_46 : decode cX3_init 46 = .ok (.iconst 0, 1) := by decide +kernel
theorem dX3_init_47 : decode cX3_init 47 = .ok (.putfield 31, 3) := by decide +kernel
theorem dX3_init_50 : decode cX3_init 50 = .ok (.return_, 1) := by decide +kernel
theorem dX1_init_0 : decode cX1_init 0 = .ok (.aload_n 0, 1) := by decide +kernel
theorem dX1_init_1 : decode cX1_init 1 = .ok (.invokespecial 3, 3) := by decide +kernel
theorem dX1_init_4 : decode cX1_init 4 = .ok (.aload_n 0, 1) := by decide +kernel
theorem dX1_init_5 : decode cX1_init 5 = .ok (.bipush 7, 2) := by decide +kernel
theorem dX1_init_7 : decode cX1_init 7 = .ok (.newarray .int, 2) := by decide +kernel
theorem dX1_init_9 : decode cX1_init 9 = .ok (.putfield 9, 3) := by decide +kernel
theorem dX1_init_12 : decode cX1_init 12 = .ok (.aload_n 0, 1) := by decide +kernel
theorem dX1_init_13 : decode cX1_init 13 = .ok (.bipush 7, 2) := by decide +kernel
theorem dX1_init_15 : decode cX1_init 15 = .ok (.newarray .int, 2) := by decide +kernel
theorem dX1_init_17 : decode cX1_init 17 = .ok (.putfield 15, 3) := by decide +kernel
theorem dX1_init_20 : decode cX1_init 20 = .ok (.aload_n 0, 1) := by decide +kernel
theorem dX1_init_21 : decode cX1_init 21 = .ok (.bipush 7, 2) := by decide +kernel
theorem dX1_init_23 : decode cX1_init 23 = .ok (.newarray .int, 2) := by decide +kernel
theorem dX1_init_25 : decode cX1_init 25 = .ok (.putfield 18, 3) := by decide +kernel
theorem dX1_init_28 : decode cX1_init 28 = .ok (.aload_n 0, 1) := by decide +kernel
theorem dX1_init_29 : decode cX1_init 29 = .ok (.bipush 7, 2) := by decide +kernel
theorem dX1_init_31 : decode cX1_init 31 = .ok (.newarray .int, 2) := by decide +kernel
theorem dX1_init_33 : decode cX1_init 33 = .ok (.putfield 21, 3) := by decide +kernel
theorem dX1_init_36 : decode cX1_init 36 = .ok (.aload_n 0, 1) := by decide +kernel
theorem dX1_init_37 : decode cX1_init 37 = .ok (.bipush 7, 2) := by decide +kernel
theorem dX1_init_39 : decode cX1_init 39 = .ok (.newarray .int, 2) := by decide +kernel
theorem dX1_init_41 : decode cX1_init 41 = .ok (.putfield 24, 3) := by decide +kernel
theorem dX1_init_44 : decode cX1_init 44 = .ok (.aload_n 0, 1) := by decide +kernel
theorem dX1_init_45 : decode cX1_init 45 = .ok (.bipush 7, 2) := by decide +kernel
theorem dX1_init_47 : decode cX1_init 47 = .ok (.newarray .int, 2) := by decide +kernel
theorem dX1_init_49 : decode cX1_init 49 = .ok (.putfield 27, 3) := by decide +kernel
theorem dX1_init_52 : decode cX1_init 52 = .ok (.aload_n 0, 1) := by decide +kernel
theorem dX1_init_53 : decode cX1_init 53 = .ok (.new 30, 3) := by decide +kernel
theorem dX1_init_56 : decode cX1_init 56 = .ok (.dup, 1) := by decide +kernel
theorem dX1_init_57 : decode cX1_init 57 = .ok (.invokespecial 32, 3) := by decide +kernel
theorem dX1_init_60 : decode cX1_init 60 = .ok (.putfield 33, 3) := by decide +kernel
theorem dX1_init_63 : decode cX1_init 63 = .ok (.aload_n 0, 1) := by decide +kernel
theorem dX1_init_64 : decode cX1_init 64 = .ok (.iconst 0, 1) := by decide +kernel
theorem dX1_init_65 : decode cX1_init 65 = .ok (.putfield 37, 3) := by decide +kernel
theorem dX1_init_68 : decode cX1_init 68 = .ok (.aload_n 0, 1) := by decide +kernel
theorem dX1_init_69 : decode cX1_init 69 = .ok (.iconst 0, 1) := by decide +kernel
theorem dX1_init_70 : decode cX1_init 70 = .ok (.putfield 41, 3) := by decide +kernel
theorem dX1_init_73 : decode cX1_init 73 = .ok (.aload_n 0, 1) := by decide +kernel
theorem dX1_init_74 : decode cX1_init 74 = .ok (.getfield 33, 3) := by decide +kernel
theorem dX1_init_77 : decode cX1_init 77 = .ok (.invokevirtual 44, 3) := by decide +kernel
theorem dX1_init_80 : decode cX1_init 80 = .ok (.return_, 1) := by decide +kernel
theorem fp_X5_9 : aFp RX5 9 4 0 (.array .int) true := ⟨RX5, TX5, 7, tyX5, rfl, by decide, inX5g, Or.inl (am_mem 153 (by decide +kernel) rfl), tyX5_ok, nmX5, rfl, by decide +kernel, fun _ => rfl⟩
theorem fp_X5_15 : aFp RX5 15 4 1 (.array .int) true := ⟨RX5, TX5, 7, tyX5, rfl, by decide, inX5g, Or.inl (am_mem 156 (by decide +kernel) rfl), tyX5_ok, nmX5, rfl, by decide +kernel, fun _ => rfl⟩
theorem fp_X5_18 : aFp RX5 18 4 2 (.array .int) true := ⟨RX5, TX5, 7, tyX5, rfl, by decide, inX5g, Or.inl (am_mem 159 (by decide +kernel) rfl), tyX5_ok, nmX5, rfl, by decide +kernel, fun _ => rfl⟩
theorem fp_X5_21 : aFp RX5 21 4 3 (.array .int) true := ⟨RX5, TX5, 7, tyX5, rfl, by decide, inX5g, Or.inl (am_mem 162 (by decide +kernel) rfl), tyX5_ok, nmX5, rfl, by decide +kernel, fun _ => rfl⟩
theorem fp_X5_24 : aFp RX5 24 4 4 (.array .int) true := ⟨RX5, TX5, 7, tyX5, rfl, by decide, inX5g, Or.inl (am_mem 165 (by decide +kernel) rfl), tyX5_ok, nmX5, rfl, by decide +kernel, fun _ => rfl⟩
theorem fp_X5_27 : aFp RX5 27 4 5 (.array .int) true := ⟨RX5, TX5, 7, tyX5, rfl, by decide, inX5g, Or.inl (am_mem 167 (by decide +kernel) rfl), tyX5_ok, nmX5, rfl, by decide +kernel, fun _ => rfl⟩
theorem fp_X4_21 : aFp RX4 21 3 0 (.array .int) true := ⟨RX4, TX4, 2, tyX4, rfl, by decide, inX4g, Or.inl (am_mem 239 (by decide +kernel) rfl), tyX4_ok, nmX4, rfl, by decide +kernel, fun _ => rfl⟩
theorem fp_X2_9 : aFp RX2 9 1 0 (.array .int) true := ⟨RX2, TX2, 8, tyX2, rfl, by decide, inX2g, Or.inl (am_mem 82 (by decide +kernel) rfl), tyX2_ok, nmX2, rfl, by decide +kernel, fun _ => rfl⟩
theorem cs_1024 : (Int16.ofInt (1024)).toInt32 = (1024 : Int32) := by decide +kernel
theorem fp_X2_15 : aFp RX2 15 1 1 (.array .int) true := ⟨RX2, TX2, 8, tyX2, rfl, by decide, inX2g, Or.inl (am_mem 83 (by decide +kernel) rfl), tyX2_ok, nmX2, rfl, by decide +kernel, fun _ => rfl⟩
theorem fp_X2_18 : aFp RX2 18 1 2 (.array .int) true := ⟨RX2, TX2, 8, tyX2, rfl, by decide, inX2g, Or.inl (am_mem 84 (by decide +kernel) rfl), tyX2_ok, nmX2, rfl, by decide +kernel, fun _ => rfl⟩
theorem fp_X3_9 : aFp RX3 9 2 0 (.array .int) true := ⟨RX3, TX3, 7, tyX3, rfl, by decide, inX3g, Or.inl (am_mem 116 (by decide +kernel) rfl), tyX3_ok, nmX3, rfl, by decide +kernel, fun _ => rfl⟩
theorem fp_X3_15 : aFp RX3 15 2 1 (.array .int) true := ⟨RX3, TX3, 7, tyX3, rfl, by decide, inX3g, Or.inl (am_mem 117 (by decide +kernel) rfl), tyX3_ok, nmX3, rfl, by decide +kernel, fun _ => rfl⟩
theorem fp_X3_18 : aFp RX3 18 2 2 (.array .int) true := ⟨RX3, TX3, 7, tyX3, rfl, by decide, inX3g, Or.inl (am_mem 118 (by decide +kernel) rfl), tyX3_ok, nmX3, rfl, by decide +kernel, fun _ => rfl⟩
theorem fp_X1_9 : aFp RX1 9 0 0 (.array .int) true := ⟨RX1, TX1, 9, tyX1, rfl, by decide, inX1g, Or.inl (am_mem 193 (by decide +kernel) rfl), tyX1_ok, nmX1, rfl, by decide +kernel, fun _ => rfl⟩
theorem fp_X1_15 : aFp RX1 15 0 1 (.array .int) true := ⟨RX1, TX1, 9, tyX1, rfl, by decide, inX1g, Or.inl (am_mem 196 (by decide +kernel) rfl), tyX1_ok, nmX1, rfl, by decide +kernel, fun _ => rfl⟩
theorem fp_X1_18 : aFp RX1 18 0 2 (.array .int) true := ⟨RX1, TX1, 9, tyX1, rfl, by decide, inX1g, Or.inl (am_mem 197 (by decide +kernel) rfl), tyX1_ok, nmX1, rfl, by decide +kernel, fun _ => rfl⟩
theorem fp_X1_21 : aFp RX1 21 0 3 (.array .int) true := ⟨RX1, TX1, 9, tyX1, rfl, by decide, inX1g, Or.inl (am_mem 198 (by decide +kernel) rfl), tyX1_ok, nmX1, rfl, by decide +kernel, fun _ => rfl⟩
theorem fp_X1_24 : aFp RX1 24 0 4 (.array .int) true := ⟨RX1, TX1, 9, tyX1, rfl, by decide, inX1g, Or.inl (am_mem 199 (by decide +kernel) rfl), tyX1_ok, nmX1, rfl, by decide +kernel, fun _ => rfl⟩
theorem fp_X1_27 : aFp RX1 27 0 5 (.array .int) true := ⟨RX1, TX1, 9, tyX1, rfl, by decide, inX1g, Or.inl (am_mem 200 (by decide +kernel) rfl), tyX1_ok, nmX1, rfl, by decide +kernel, fun _ => rfl⟩
theorem nw_X1_30 : aNw RX1 30 4 7 := ⟨RX5, TX5, tyX5, rfl, inX5g, tyX5_ok, by decide +kernel, by decide, (am_mem 147 (by decide +kernel) rfl), (am_mem 148 (by decide +kernel) rfl), (am_mem 56 (by decide +kernel) rfl)⟩
theorem cc_X1_32 : aCI RX1 32 yX5_init mX5_init 0 := ⟨Or.inr ⟨"LostQuestions", (am_memN 149 (by decide +kernel) rfl)⟩, (am_mem 150 (by decide +kernel) rfl), (am_mem 56 (by decide +kernel) rfl), (am_mem 151 (by decide +kernel) rfl), rfl, rfl, by decide +kernel, by decide +kernel, by decide +kernel⟩
theorem fp_X1_33 : aFp RX1 33 0 6 (.object "LostQuestions$Standing") true := ⟨RX1, TX1, 9, tyX1, rfl, by decide, inX1g, Or.inl (am_mem 202 (by decide +kernel) rfl), tyX1_ok, nmX1, rfl, by decide +kernel, fun _ => rfl⟩
def stdI (S : aSt) (k : Nat) : aSt := stI (stR (stR (stR (stR (stR (stR S k 0 (some (k + 1))) k 1 (some (k + 2))) k 2 (some (k + 3))) k 3 (some (k + 4))) k 4 (some (k + 5))) k 5 (some (k + 6))) k 6 (-1 : Int32)
theorem stdI_z {S : aSt} {n k : Nat} (h : Zr S n) (hk : k < n) : Zr (stdI S k) n := ((((((h.R hk).R hk).R hk).R hk).R hk).R hk).I hk
def rowI (S : aSt) (k : Nat) : aSt := stR (stI S k 1 (-1 : Int32)) k 0 (some (k + 1))
theorem rowI_z {S : aSt} {n k : Nat} (h : Zr S n) (hk : k < n) : Zr (rowI S k) n := (h.I hk).R hk
def matI (S : aSt) (k : Nat) : aSt := stI (stI (stI (stI (stI (stR (stR (stR S k 0 (some (k + 1))) k 1 (some (k + 2))) k 2 (some (k + 3))) k 3 (0 : Int32)) k 4 (0 : Int32)) k 5 (1 : Int32)) k 6 (0 : Int32)) k 7 (1 : Int32)
theorem matI_z {S : aSt} {n k : Nat} (h : Zr S n) (hk : k < n) : Zr (matI S k) n := ((((((((h.R hk).R hk).R hk).I hk).I hk).I hk).I hk).I hk)
def parI (S : aSt) (k : Nat) : aSt := stI (stI (stI (stI (stR (stR (stR S k 0 (some (k + 1))) k 1 (some (k + 2))) k 2 (some (k + 3))) k 3 (-9 : Int32)) k 4 (0 : Int32)) k 5 (0 : Int32)) k 6 (0 : Int32)
theorem parI_z {S : aSt} {n k : Nat} (h : Zr S n) (hk : k < n) : Zr (parI S k) n := (((((((h.R hk).R hk).R hk).I hk).I hk).I hk).I hk)
def libI (S : aSt) (k : Nat) : aSt := begS (stI (stI (stR (stdI (stR (stR (stR (stR (stR (stR S k 0 (some (k + 1))) k 1 (some (k + 2))) k 2 (some (k + 3))) k 3 (some (k + 4))) k 4 (some (k + 5))) k 5 (some (k + 6))) (k + 7)) k 6 (some (k + 7))) k 7 (0 : Int32)) k 8 (0 : Int32)) (k + 7)
theorem begS_z {S : aSt} {n k : Nat} (h : Zr S n) (hk : k + 4 < n) : Zr (begS S k) n := ((h.I (by omega)).W (by omega)).W (by omega)
theorem libI_z {S : aSt} {n k : Nat} (h : Zr S n) (hk : k + 13 < n) : Zr (libI S k) n := begS_z (((stdI_z ((((((h.R (by omega)).R (by omega)).R (by omega)).R (by omega)).R (by omega)).R (by omega)) (by omega)).R (by omega)).I (by omega) |>.I (by omega)) (by omega)
theorem K_X5 {G : aG} {l : Launch} {k : Nat} {S : aSt} (s0 : (SH k).1 = 4) (s1 : SH (k + 1) = (7, 7)) (s2 : SH (k + 2) = (7, 7)) (s3 : SH (k + 3) = (7, 7)) (s4 : SH (k + 4) = (7, 7)) (s5 : SH (k + 5) = (7, 40)) (s6 : SH (k + 6) = (7, 280)) (hk : k + 7 ≤ 97) (hz : Zr S (k + 1)) : Ctr G l yX5_init mX5_init (rmK 2 6 348) (k + 1) (k + 7) S [.ref k] none (stdI S k) := by
  obtain ⟨S1, e1⟩ : ∃ z, z = stR S k 0 (some (k + 1)) := ⟨_, rfl⟩
  obtain ⟨S2, e2⟩ : ∃ z, z = stR S1 k 1 (some (k + 2)) := ⟨_, rfl⟩
  obtain ⟨S3, e3⟩ : ∃ z, z = stR S2 k 2 (some (k + 3)) := ⟨_, rfl⟩
  obtain ⟨S4, e4⟩ : ∃ z, z = stR S3 k 3 (some (k + 4)) := ⟨_, rfl⟩
  obtain ⟨S5, e5⟩ : ∃ z, z = stR S4 k 4 (some (k + 5)) := ⟨_, rfl⟩
  obtain ⟨S6, e6⟩ : ∃ z, z = stR S5 k 5 (some (k + 6)) := ⟨_, rfl⟩
  obtain ⟨S7, e7⟩ : ∃ z, z = stI S6 k 6 (-1 : Int32) := ⟨_, rfl⟩
  have hS : S7 = stdI S k := by rw [e7, e6, e5, e4, e3, e2, e1]; rfl
  rw [← hS]
  refine Ctr.of (by decide) rfl rfl (Nat.le_of_ble_eq_true rfl) [(0, .ref k)] rfl ?_
  refine Go.aload_n 0 1 rfl dX5_init_0 rfl ?_
  refine Go.objI 4 rfl dX5_init_1 (am_mem 152 (by decide +kernel) rfl) (am_mem 70 (by decide +kernel) rfl) (am_mem 71 (by decide +kernel) rfl) (Nat.le_of_ble_eq_true rfl) (Nat.le_of_ble_eq_true rfl) ?_
  refine Go.aload_n 0 5 rfl dX5_init_4 rfl ?_
  refine Go.bipush (7 : Int32) 7 rfl dX5_init_5 cb_7 ?_
  refine Go.newI (N := 7) 9 (k + 2) 1 7 rfl rfl rfl rfl dX5_init_7 s1 rfl (by decide) (by omega) hz (am_mem 109 (by decide +kernel) rfl) (Nat.le_of_ble_eq_true rfl) (by decide) ?_
  have y5 : Zr S (k + 2) := hz.up (by omega)
  refine Go.putR 12 rfl dX5_init_9 fp_X5_9 (Or.inr ⟨_, rfl⟩) rfl (by omega) s0 (fun _ => rfl) (Go.stG S1 e1 ?_)
  have z1 : Zr S1 (k + 2) := by rw [e1]; exact y5.R (by omega)
  refine Go.aload_n 0 13 rfl dX5_init_12 rfl ?_
  refine Go.bipush (7 : Int32) 15 rfl dX5_init_13 cb_7 ?_
  refine Go.newI (N := 7) 17 (k + 3) 2 14 rfl rfl rfl rfl dX5_init_15 s2 rfl (by decide) (by omega) z1 (am_mem 109 (by decide +kernel) rfl) (Nat.le_of_ble_eq_true rfl) (by decide) ?_
  have y11 : Zr S1 (k + 3) := z1.up (by omega)
  refine Go.putR 20 rfl dX5_init_17 fp_X5_15 (Or.inr ⟨_, rfl⟩) rfl (by omega) s0 (fun _ => rfl) (Go.stG S2 e2 ?_)
  have z2 : Zr S2 (k + 3) := by rw [e2]; exact y11.R (by omega)
  refine Go.aload_n 0 21 rfl dX5_init_20 rfl ?_
  refine Go.bipush (7 : Int32) 23 rfl dX5_init_21 cb_7 ?_
  refine Go.newI (N := 7) 25 (k + 4) 3 21 rfl rfl rfl rfl dX5_init_23 s3 rfl (by decide) (by omega) z2 (am_mem 109 (by decide +kernel) rfl) (Nat.le_of_ble_eq_true rfl) (by decide) ?_
  have y17 : Zr S2 (k + 4) := z2.up (by omega)
  refine Go.putR 28 rfl dX5_init_25 fp_X5_18 (Or.inr ⟨_, rfl⟩) rfl (by omega) s0 (fun _ => rfl) (Go.stG S3 e3 ?_)
  have z3 : Zr S3 (k + 4) := by rw [e3]; exact y17.R (by omega)
  refine Go.aload_n 0 29 rfl dX5_init_28 rfl ?_
  refine Go.bipush (7 : Int32) 31 rfl dX5_init_29 cb_7 ?_
  refine Go.newI (N := 7) 33 (k + 5) 4 28 rfl rfl rfl rfl dX5_init_31 s4 rfl (by decide) (by omega) z3 (am_mem 109 (by decide +kernel) rfl) (Nat.le_of_ble_eq_true rfl) (by decide) ?_
  have y23 : Zr S3 (k + 5) := z3.up (by omega)
  refine Go.putR 36 rfl dX5_init_33 fp_X5_21 (Or.inr ⟨_, rfl⟩) rfl (by omega) s0 (fun _ => rfl) (Go.stG S4 e4 ?_)
  have z4 : Zr S4 (k + 5) := by rw [e4]; exact y23.R (by omega)
  refine Go.aload_n 0 37 rfl dX5_init_36 rfl ?_
  refine Go.bipush (40 : Int32) 39 rfl dX5_init_37 cb_40 ?_
  refine Go.newI (N := 40) 41 (k + 6) 5 68 rfl rfl rfl rfl dX5_init_39 s5 rfl (by decide) (by omega) z4 (am_mem 109 (by decide +kernel) rfl) (Nat.le_of_ble_eq_true rfl) (by decide) ?_
  have y29 : Zr S4 (k + 6) := z4.up (by omega)
  refine Go.putR 44 rfl dX5_init_41 fp_X5_24 (Or.inr ⟨_, rfl⟩) rfl (by omega) s0 (fun _ => rfl) (Go.stG S5 e5 ?_)
  have z5 : Zr S5 (k + 6) := by rw [e5]; exact y29.R (by omega)
  refine Go.aload_n 0 45 rfl dX5_init_44 rfl ?_
  refine Go.sipush (280 : Int32) 48 rfl dX5_init_45 cs_280 ?_
  refine Go.newI (N := 280) 50 (k + 7) 6 348 rfl rfl rfl rfl dX5_init_48 s6 rfl (by decide) (by omega) z5 (am_mem 109 (by decide +kernel) rfl) (Nat.le_of_ble_eq_true rfl) (by decide) ?_
  have y35 : Zr S5 (k + 7) := z5.up (by omega)
  refine Go.putR 53 rfl dX5_init_50 fp_X5_27 (Or.inr ⟨_, rfl⟩) rfl (by omega) s0 (fun _ => rfl) (Go.stG S6 e6 ?_)
  have z6 : Zr S6 (k + 7) := by rw [e6]; exact y35.R (by omega)
  refine Go.aload_n 0 54 rfl dX5_init_53 rfl ?_
  refine Go.iconst (-1 : Int32) 55 rfl dX5_init_54 ci_m1 ?_
  refine Go.putI 58 rfl dX5_init_55 fp_X5_30 rfl (by omega) s0 (fun _ => rfl) (Go.stG S7 e7 ?_)
  have z7 : Zr S7 (k + 7) := by rw [e7]; exact z6.I (by omega)
  exact Go.vret rfl dX5_init_58
theorem K_X4 {G : aG} {l : Launch} {k N : Nat} {v : Int32} {S : aSt} (s0 : (SH k).1 = 3) (s1 : SH (k + 1) = (7, N)) (hv : v = nI N) (hN : N < 100000) (hmax : (if v < (0 : Int32) then (0 : Int32) else v) = v) (hk : k + 2 ≤ 97) (hz : Zr S (k + 1)) : Ctr G l yX4_init mX4_init (rmK 2 1 N) (k + 1) (k + 2) S [.ref k, .int v] none (rowI S k) := by
  obtain ⟨S1, e1⟩ : ∃ z, z = stI S k 1 (-1 : Int32) := ⟨_, rfl⟩
  obtain ⟨S2, e2⟩ : ∃ z, z = stR S1 k 0 (some (k + 1)) := ⟨_, rfl⟩
  have hS : S2 = rowI S k := by rw [e2, e1]; rfl
  rw [← hS]
  refine Ctr.of (by decide) rfl rfl (Nat.le_of_ble_eq_true rfl) [(0, .ref k), (1, .int v)] rfl ?_
  refine Go.aload_n 0 1 rfl dX4_init_0 rfl ?_
  refine Go.objI 4 rfl dX4_init_1 (am_mem 235 (by decide +kernel) rfl) (am_mem 70 (by decide +kernel) rfl) (am_mem 71 (by decide +kernel) rfl) (Nat.le_of_ble_eq_true rfl) (Nat.le_of_ble_eq_true rfl) ?_
  refine Go.aload_n 0 5 rfl dX4_init_4 rfl ?_
  refine Go.iconst (-1 : Int32) 6 rfl dX4_init_5 ci_m1 ?_
  refine Go.putI 9 rfl dX4_init_6 fp_X4_9 rfl (by omega) s0 (fun _ => rfl) (Go.stG S1 e1 ?_)
  have z1 : Zr S1 (k + 1) := by rw [e1]; exact hz.I (by omega)
  refine Go.aload_n 0 10 rfl dX4_init_9 rfl ?_
  refine Go.iload_n 1 11 rfl dX4_init_10 rfl ?_
  refine Go.iconst (0 : Int32) 12 rfl dX4_init_11 ci_0 ?_
  refine Go.mxG 15 rfl dX4_init_12 (am_mem 236 (by decide +kernel) rfl) (am_mem 237 (by decide +kernel) rfl) (am_mem 59 (by decide +kernel) rfl) (am_mem 238 (by decide +kernel) rfl) (by show 1 ≤ 2; omega) (Nat.le_of_ble_eq_true rfl) (Nat.zero_le _) (Nat.zero_le _) ?_
  rw [hmax]
  refine Go.newI (N := N) 17 (k + 2) 1 N rfl rfl rfl (Nat.zero_add N) dX4_init_15 s1 hv hN (by omega) z1 (am_mem 109 (by decide +kernel) rfl) (Nat.le_of_ble_eq_true rfl) (Nat.le_refl N) ?_
  have y12 : Zr S1 (k + 2) := z1.up (by omega)
  refine Go.putR 20 rfl dX4_init_17 fp_X4_21 (Or.inr ⟨_, rfl⟩) rfl (by omega) s0 (fun _ => rfl) (Go.stG S2 e2 ?_)
  have z2 : Zr S2 (k + 2) := by rw [e2]; exact y12.R (by omega)
  exact Go.vret rfl dX4_init_20
theorem K_X2 {G : aG} {l : Launch} {k : Nat} {S : aSt} (s0 : (SH k).1 = 1) (s1 : SH (k + 1) = (7, 7)) (s2 : SH (k + 2) = (7, 1024)) (s3 : SH (k + 3) = (7, 1024)) (hk : k + 4 ≤ 97) (hz : Zr S (k + 1)) : Ctr G l yX2_init mX2_init (rmK 2 3 2055) (k + 1) (k + 4) S [.ref k] none (matI S k) := by
  obtain ⟨S1, e1⟩ : ∃ z, z = stR S k 0 (some (k + 1)) := ⟨_, rfl⟩
  obtain ⟨S2, e2⟩ : ∃ z, z = stR S1 k 1 (some (k + 2)) := ⟨_, rfl⟩
  obtain ⟨S3, e3⟩ : ∃ z, z = stR S2 k 2 (some (k + 3)) := ⟨_, rfl⟩
  obtain ⟨S4, e4⟩ : ∃ z, z = stI S3 k 3 (0 : Int32) := ⟨_, rfl⟩
  obtain ⟨S5, e5⟩ : ∃ z, z = stI S4 k 4 (0 : Int32) := ⟨_, rfl⟩
  obtain ⟨S6, e6⟩ : ∃ z, z = stI S5 k 5 (1 : Int32) := ⟨_, rfl⟩
  obtain ⟨S7, e7⟩ : ∃ z, z = stI S6 k 6 (0 : Int32) := ⟨_, rfl⟩
  obtain ⟨S8, e8⟩ : ∃ z, z = stI S7 k 7 (1 : Int32) := ⟨_, rfl⟩
  have hS : S8 = matI S k := by rw [e8, e7, e6, e5, e4, e3, e2, e1]; rfl
  rw [← hS]
  refine Ctr.of (by decide) rfl rfl (Nat.le_of_ble_eq_true rfl) [(0, .ref k)] rfl ?_
  refine Go.aload_n 0 1 rfl dX2_init_0 rfl ?_
  refine Go.objI 4 rfl dX2_init_1 (am_mem 81 (by decide +kernel) rfl) (am_mem 70 (by decide +kernel) rfl) (am_mem 71 (by decide +kernel) rfl) (Nat.le_of_ble_eq_true rfl) (Nat.le_of_ble_eq_true rfl) ?_
  refine Go.aload_n 0 5 rfl dX2_init_4 rfl ?_
  refine Go.bipush (7 : Int32) 7 rfl dX2_init_5 cb_7 ?_
  refine Go.newI (N := 7) 9 (k + 2) 1 7 rfl rfl rfl rfl dX2_init_7 s1 rfl (by decide) (by omega) hz (am_mem 109 (by decide +kernel) rfl) (Nat.le_of_ble_eq_true rfl) (by decide) ?_
  have y5 : Zr S (k + 2) := hz.up (by omega)
  refine Go.putR 12 rfl dX2_init_9 fp_X2_9 (Or.inr ⟨_, rfl⟩) rfl (by omega) s0 (fun _ => rfl) (Go.stG S1 e1 ?_)
  have z1 : Zr S1 (k + 2) := by rw [e1]; exact y5.R (by omega)
  refine Go.aload_n 0 13 rfl dX2_init_12 rfl ?_
  refine Go.sipush (1024 : Int32) 16 rfl dX2_init_13 cs_1024 ?_
  refine Go.newI (N := 1024) 18 (k + 3) 2 1031 rfl rfl rfl rfl dX2_init_16 s2 rfl (by decide) (by omega) z1 (am_mem 109 (by decide +kernel) rfl) (Nat.le_of_ble_eq_true rfl) (by decide) ?_
  have y11 : Zr S1 (k + 3) := z1.up (by omega)
  refine Go.putR 21 rfl dX2_init_18 fp_X2_15 (Or.inr ⟨_, rfl⟩) rfl (by omega) s0 (fun _ => rfl) (Go.stG S2 e2 ?_)
  have z2 : Zr S2 (k + 3) := by rw [e2]; exact y11.R (by omega)
  refine Go.aload_n 0 22 rfl dX2_init_21 rfl ?_
  refine Go.sipush (1024 : Int32) 25 rfl dX2_init_22 cs_1024 ?_
  refine Go.newI (N := 1024) 27 (k + 4) 3 2055 rfl rfl rfl rfl dX2_init_25 s3 rfl (by decide) (by omega) z2 (am_mem 109 (by decide +kernel) rfl) (Nat.le_of_ble_eq_true rfl) (by decide) ?_
  have y17 : Zr S2 (k + 4) := z2.up (by omega)
  refine Go.putR 30 rfl dX2_init_27 fp_X2_18 (Or.inr ⟨_, rfl⟩) rfl (by omega) s0 (fun _ => rfl) (Go.stG S3 e3 ?_)
  have z3 : Zr S3 (k + 4) := by rw [e3]; exact y17.R (by omega)
  refine Go.aload_n 0 31 rfl dX2_init_30 rfl ?_
  refine Go.iconst (0 : Int32) 32 rfl dX2_init_31 ci_0 ?_
  refine Go.putI 35 rfl dX2_init_32 fp_X2_21 rfl (by omega) s0 (fun _ => rfl) (Go.stG S4 e4 ?_)
  have z4 : Zr S4 (k + 4) := by rw [e4]; exact z3.I (by omega)
  refine Go.aload_n 0 36 rfl dX2_init_35 rfl ?_
  refine Go.iconst (0 : Int32) 37 rfl dX2_init_36 ci_0 ?_
  refine Go.putI 40 rfl dX2_init_37 fp_X2_25 rfl (by omega) s0 (fun _ => rfl) (Go.stG S5 e5 ?_)
  have z5 : Zr S5 (k + 4) := by rw [e5]; exact z4.I (by omega)
  refine Go.aload_n 0 41 rfl dX2_init_40 rfl ?_
  refine Go.iconst (1 : Int32) 42 rfl dX2_init_41 ci_1 ?_
  refine Go.putI 45 rfl dX2_init_42 fp_X2_28 rfl (by omega) s0 (fun _ => rfl) (Go.stG S6 e6 ?_)
  have z6 : Zr S6 (k + 4) := by rw [e6]; exact z5.I (by omega)
  refine Go.aload_n 0 46 rfl dX2_init_45 rfl ?_
  refine Go.iconst (0 : Int32) 47 rfl dX2_init_46 ci_0 ?_
  refine Go.putI 50 rfl dX2_init_47 fp_X2_31 rfl (by omega) s0 (fun _ => rfl) (Go.stG S7 e7 ?_)
  have z7 : Zr S7 (k + 4) := by rw [e7]; exact z6.I (by omega)
  refine Go.aload_n 0 51 rfl dX2_init_50 rfl ?_
  refine Go.iconst (1 : Int32) 52 rfl dX2_init_51 ci_1 ?_
  refine Go.putI 55 rfl dX2_init_52 fp_X2_34 rfl (by omega) s0 (fun _ => rfl) (Go.stG S8 e8 ?_)
  have z8 : Zr S8 (k + 4) := by rw [e8]; exact z7.I (by omega)
  exact Go.vret rfl dX2_init_55
theorem K_X3 {G : aG} {l : Launch} {k : Nat} {S : aSt} (s0 : (SH k).1 = 2) (s1 : SH (k + 1) = (7, 10)) (s2 : SH (k + 2) = (7, 7)) (s3 : SH (k + 3) = (7, 128)) (hk : k + 4 ≤ 97) (hz : Zr S (k + 1)) : Ctr G l yX3_init mX3_init (rmK 2 3 145) (k + 1) (k + 4) S [.ref k] none (parI S k) := by
  obtain ⟨S1, e1⟩ : ∃ z, z = stR S k 0 (some (k + 1)) := ⟨_, rfl⟩
  obtain ⟨S2, e2⟩ : ∃ z, z = stR S1 k 1 (some (k + 2)) := ⟨_, rfl⟩
  obtain ⟨S3, e3⟩ : ∃ z, z = stR S2 k 2 (some (k + 3)) := ⟨_, rfl⟩
  obtain ⟨S4, e4⟩ : ∃ z, z = stI S3 k 3 (-9 : Int32) := ⟨_, rfl⟩
  obtain ⟨S5, e5⟩ : ∃ z, z = stI S4 k 4 (0 : Int32) := ⟨_, rfl⟩
  obtain ⟨S6, e6⟩ : ∃ z, z = stI S5 k 5 (0 : Int32) := ⟨_, rfl⟩
  obtain ⟨S7, e7⟩ : ∃ z, z = stI S6 k 6 (0 : Int32) := ⟨_, rfl⟩
  have hS : S7 = parI S k := by rw [e7, e6, e5, e4, e3, e2, e1]; rfl
  rw [← hS]
  refine Ctr.of (by decide) rfl rfl (Nat.le_of_ble_eq_true rfl) [(0, .ref k)] rfl ?_
  refine Go.aload_n 0 1 rfl dX3_init_0 rfl ?_
  refine Go.objI 4 rfl dX3_init_1 (am_mem 115 (by decide +kernel) rfl) (am_mem 70 (by decide +kernel) rfl) (am_mem 71 (by decide +kernel) rfl) (Nat.le_of_ble_eq_true rfl) (Nat.le_of_ble_eq_true rfl) ?_
  refine Go.aload_n 0 5 rfl dX3_init_4 rfl ?_
  refine Go.bipush (10 : Int32) 7 rfl dX3_init_5 cb_10 ?_
  refine Go.newI (N := 10) 9 (k + 2) 1 10 rfl rfl rfl rfl dX3_init_7 s1 rfl (by decide) (by omega) hz (am_mem 109 (by decide +kernel) rfl) (Nat.le_of_ble_eq_true rfl) (by decide) ?_
  have y5 : Zr S (k + 2) := hz.up (by omega)
  refine Go.putR 12 rfl dX3_init_9 fp_X3_9 (Or.inr ⟨_, rfl⟩) rfl (by omega) s0 (fun _ => rfl) (Go.stG S1 e1 ?_)
  have z1 : Zr S1 (k + 2) := by rw [e1]; exact y5.R (by omega)
  refine Go.aload_n 0 13 rfl dX3_init_12 rfl ?_
  refine Go.bipush (7 : Int32) 15 rfl dX3_init_13 cb_7 ?_
  refine Go.newI (N := 7) 17 (k + 3) 2 17 rfl rfl rfl rfl dX3_init_15 s2 rfl (by decide) (by omega) z1 (am_mem 109 (by decide +kernel) rfl) (Nat.le_of_ble_eq_true rfl) (by decide) ?_
  have y11 : Zr S1 (k + 3) := z1.up (by omega)
  refine Go.putR 20 rfl dX3_init_17 fp_X3_15 (Or.inr ⟨_, rfl⟩) rfl (by omega) s0 (fun _ => rfl) (Go.stG S2 e2 ?_)
  have z2 : Zr S2 (k + 3) := by rw [e2]; exact y11.R (by omega)
  refine Go.aload_n 0 21 rfl dX3_init_20 rfl ?_
  refine Go.sipush (128 : Int32) 24 rfl dX3_init_21 cs_128 ?_
  refine Go.newI (N := 128) 26 (k + 4) 3 145 rfl rfl rfl rfl dX3_init_24 s3 rfl (by decide) (by omega) z2 (am_mem 109 (by decide +kernel) rfl) (Nat.le_of_ble_eq_true rfl) (by decide) ?_
  have y17 : Zr S2 (k + 4) := z2.up (by omega)
  refine Go.putR 29 rfl dX3_init_26 fp_X3_18 (Or.inr ⟨_, rfl⟩) rfl (by omega) s0 (fun _ => rfl) (Go.stG S3 e3 ?_)
  have z3 : Zr S3 (k + 4) := by rw [e3]; exact y17.R (by omega)
  refine Go.aload_n 0 30 rfl dX3_init_29 rfl ?_
  refine Go.bipush (-9 : Int32) 32 rfl dX3_init_30 cb_m9 ?_
  refine Go.putI 35 rfl dX3_init_32 fp_X3_21 rfl (by omega) s0 (fun _ => rfl) (Go.stG S4 e4 ?_)
  have z4 : Zr S4 (k + 4) := by rw [e4]; exact z3.I (by omega)
  refine Go.aload_n 0 36 rfl dX3_init_35 rfl ?_
  refine Go.iconst (0 : Int32) 37 rfl dX3_init_36 ci_0 ?_
  refine Go.putI 40 rfl dX3_init_37 fp_X3_25 rfl (by omega) s0 (fun _ => rfl) (Go.stG S5 e5 ?_)
  have z5 : Zr S5 (k + 4) := by rw [e5]; exact z4.I (by omega)
  refine Go.aload_n 0 41 rfl dX3_init_40 rfl ?_
  refine Go.iconst (0 : Int32) 42 rfl dX3_init_41 ci_0 ?_
  refine Go.putI 45 rfl dX3_init_42 fp_X3_28 rfl (by omega) s0 (fun _ => rfl) (Go.stG S6 e6 ?_)
  have z6 : Zr S6 (k + 4) := by rw [e6]; exact z5.I (by omega)
  refine Go.aload_n 0 46 rfl dX3_init_45 rfl ?_
  refine Go.iconst (0 : Int32) 47 rfl dX3_init_46 ci_0 ?_
  refine Go.putI 50 rfl dX3_init_47 fp_X3_31 rfl (by omega) s0 (fun _ => rfl) (Go.stG S7 e7 ?_)
  have z7 : Zr S7 (k + 4) := by rw [e7]; exact z6.I (by omega)
  exact Go.vret rfl dX3_init_50
set_option maxHeartbeats 2000000 in
theorem K_X1 {G : aG} {l : Launch} {k : Nat} {S : aSt} (s0 : (SH k).1 = 0) (s1 : SH (k + 1) = (7, 7)) (s2 : SH (k + 2) = (7, 7)) (s3 : SH (k + 3) = (7, 7)) (s4 : SH (k + 4) = (7, 7)) (s5 : SH (k + 5) = (7, 7)) (s6 : SH (k + 6) = (7, 7)) (s7 : SH (k + 7) = (4, 0)) (s8 : SH (k + 8) = (7, 7)) (s9 : SH (k + 9) = (7, 7)) (s10 : SH (k + 10) = (7, 7)) (s11 : SH (k + 11) = (7, 7)) (s12 : SH (k + 12) = (7, 40)) (s13 : SH (k + 13) = (7, 280)) (hk : k + 14 ≤ 97) (hz : Zr S (k + 1)) : Ctr G l yX1_init mX1_init (rmK 4 13 397) (k + 1) (k + 14) S [.ref k] none (libI S k) := by
  obtain ⟨S1, e1⟩ : ∃ z, z = stR S k 0 (some (k + 1)) := ⟨_, rfl⟩
  obtain ⟨S2, e2⟩ : ∃ z, z = stR S1 k 1 (some (k + 2)) := ⟨_, rfl⟩
  obtain ⟨S3, e3⟩ : ∃ z, z = stR S2 k 2 (some (k + 3)) := ⟨_, rfl⟩
  obtain ⟨S4, e4⟩ : ∃ z, z = stR S3 k 3 (some (k + 4)) := ⟨_, rfl⟩
  obtain ⟨S5, e5⟩ : ∃ z, z = stR S4 k 4 (some (k + 5)) := ⟨_, rfl⟩
  obtain ⟨S6, e6⟩ : ∃ z, z = stR S5 k 5 (some (k + 6)) := ⟨_, rfl⟩
  obtain ⟨S7, e7⟩ : ∃ z, z = stdI S6 (k + 7) := ⟨_, rfl⟩
  obtain ⟨S8, e8⟩ : ∃ z, z = stR S7 k 6 (some (k + 7)) := ⟨_, rfl⟩
  obtain ⟨S9, e9⟩ : ∃ z, z = stI S8 k 7 (0 : Int32) := ⟨_, rfl⟩
  obtain ⟨S10, e10⟩ : ∃ z, z = stI S9 k 8 (0 : Int32) := ⟨_, rfl⟩
  obtain ⟨S11, e11⟩ : ∃ z, z = begS S10 (k + 7) := ⟨_, rfl⟩
  have hS : S11 = libI S k := by rw [e11, e10, e9, e8, e7, e6, e5, e4, e3, e2, e1]; rfl
  rw [← hS]
  refine Ctr.of (by decide) rfl rfl (Nat.le_of_ble_eq_true rfl) [(0, .ref k)] rfl ?_
  refine Go.aload_n 0 1 rfl dX1_init_0 rfl ?_
  refine Go.objI 4 rfl dX1_init_1 (am_mem 146 (by decide +kernel) rfl) (am_mem 70 (by decide +kernel) rfl) (am_mem 71 (by decide +kernel) rfl) (Nat.le_of_ble_eq_true rfl) (Nat.le_of_ble_eq_true rfl) ?_
  refine Go.aload_n 0 5 rfl dX1_init_4 rfl ?_
  refine Go.bipush (7 : Int32) 7 rfl dX1_init_5 cb_7 ?_
  refine Go.newI (N := 7) 9 (k + 2) 1 7 rfl rfl rfl rfl dX1_init_7 s1 rfl (by decide) (by omega) hz (am_mem 109 (by decide +kernel) rfl) (Nat.le_of_ble_eq_true rfl) (by decide) ?_
  have y5 : Zr S (k + 2) := hz.up (by omega)
  refine Go.putR 12 rfl dX1_init_9 fp_X1_9 (Or.inr ⟨_, rfl⟩) rfl (by omega) s0 (fun _ => rfl) (Go.stG S1 e1 ?_)
  have z1 : Zr S1 (k + 2) := by rw [e1]; exact y5.R (by omega)
  refine Go.aload_n 0 13 rfl dX1_init_12 rfl ?_
  refine Go.bipush (7 : Int32) 15 rfl dX1_init_13 cb_7 ?_
  refine Go.newI (N := 7) 17 (k + 3) 2 14 rfl rfl rfl rfl dX1_init_15 s2 rfl (by decide) (by omega) z1 (am_mem 109 (by decide +kernel) rfl) (Nat.le_of_ble_eq_true rfl) (by decide) ?_
  have y11 : Zr S1 (k + 3) := z1.up (by omega)
  refine Go.putR 20 rfl dX1_init_17 fp_X1_15 (Or.inr ⟨_, rfl⟩) rfl (by omega) s0 (fun _ => rfl) (Go.stG S2 e2 ?_)
  have z2 : Zr S2 (k + 3) := by rw [e2]; exact y11.R (by omega)
  refine Go.aload_n 0 21 rfl dX1_init_20 rfl ?_
  refine Go.bipush (7 : Int32) 23 rfl dX1_init_21 cb_7 ?_
  refine Go.newI (N := 7) 25 (k + 4) 3 21 rfl rfl rfl rfl dX1_init_23 s3 rfl (by decide) (by omega) z2 (am_mem 109 (by decide +kernel) rfl) (Nat.le_of_ble_eq_true rfl) (by decide) ?_
  have y17 : Zr S2 (k + 4) := z2.up (by omega)
  refine Go.putR 28 rfl dX1_init_25 fp_X1_18 (Or.inr ⟨_, rfl⟩) rfl (by omega) s0 (fun _ => rfl) (Go.stG S3 e3 ?_)
  have z3 : Zr S3 (k + 4) := by rw [e3]; exact y17.R (by omega)
  refine Go.aload_n 0 29 rfl dX1_init_28 rfl ?_
  refine Go.bipush (7 : Int32) 31 rfl dX1_init_29 cb_7 ?_
  refine Go.newI (N := 7) 33 (k + 5) 4 28 rfl rfl rfl rfl dX1_init_31 s4 rfl (by decide) (by omega) z3 (am_mem 109 (by decide +kernel) rfl) (Nat.le_of_ble_eq_true rfl) (by decide) ?_
  have y23 : Zr S3 (k + 5) := z3.up (by omega)
  refine Go.putR 36 rfl dX1_init_33 fp_X1_21 (Or.inr ⟨_, rfl⟩) rfl (by omega) s0 (fun _ => rfl) (Go.stG S4 e4 ?_)
  have z4 : Zr S4 (k + 5) := by rw [e4]; exact y23.R (by omega)
  refine Go.aload_n 0 37 rfl dX1_init_36 rfl ?_
  refine Go.bipush (7 : Int32) 39 rfl dX1_init_37 cb_7 ?_
  refine Go.newI (N := 7) 41 (k + 6) 5 35 rfl rfl rfl rfl dX1_init_39 s5 rfl (by decide) (by omega) z4 (am_mem 109 (by decide +kernel) rfl) (Nat.le_of_ble_eq_true rfl) (by decide) ?_
  have y29 : Zr S4 (k + 6) := z4.up (by omega)
  refine Go.putR 44 rfl dX1_init_41 fp_X1_24 (Or.inr ⟨_, rfl⟩) rfl (by omega) s0 (fun _ => rfl) (Go.stG S5 e5 ?_)
  have z5 : Zr S5 (k + 6) := by rw [e5]; exact y29.R (by omega)
  refine Go.aload_n 0 45 rfl dX1_init_44 rfl ?_
  refine Go.bipush (7 : Int32) 47 rfl dX1_init_45 cb_7 ?_
  refine Go.newI (N := 7) 49 (k + 7) 6 42 rfl rfl rfl rfl dX1_init_47 s6 rfl (by decide) (by omega) z5 (am_mem 109 (by decide +kernel) rfl) (Nat.le_of_ble_eq_true rfl) (by decide) ?_
  have y35 : Zr S5 (k + 7) := z5.up (by omega)
  refine Go.putR 52 rfl dX1_init_49 fp_X1_27 (Or.inr ⟨_, rfl⟩) rfl (by omega) s0 (fun _ => rfl) (Go.stG S6 e6 ?_)
  have z6 : Zr S6 (k + 7) := by rw [e6]; exact y35.R (by omega)
  refine Go.aload_n 0 53 rfl dX1_init_52 rfl ?_
  refine Go.newO 56 (k + 8) 7 49 rfl rfl rfl rfl dX1_init_53 nw_X1_30 (by rw [s7]) (by omega) z6 (by decide) (by decide) ?_
  have y40 : Zr S6 (k + 8) := z6.up (by omega)
  refine Go.dup 57 rfl dX1_init_56 rfl ?_
  refine Go.callI 60 (k + 14) 13 397 [] [.ref (k + 7), .ref k] rfl rfl rfl rfl dX1_init_57 (K_X5 (by rw [s7]) s8 s9 s10 s11 s12 s13 (by omega) y40) cc_X1_32 ⟨by decide, by decide⟩ ⟨by decide, by decide⟩ rfl (Nat.le_of_ble_eq_true rfl) (Go.stG S7 e7 ?_)
  have z7 : Zr S7 (k + 14) := by rw [e7]; exact stdI_z (y40.up (by omega)) (by omega)
  refine Go.putR 63 rfl dX1_init_60 fp_X1_33 (Or.inl ⟨_, rfl⟩) rfl (by omega) s0 (fun _ => rfl) (Go.stG S8 e8 ?_)
  have z8 : Zr S8 (k + 14) := by rw [e8]; exact z7.R (by omega)
  refine Go.aload_n 0 64 rfl dX1_init_63 rfl ?_
  refine Go.iconst (0 : Int32) 65 rfl dX1_init_64 ci_0 ?_
  refine Go.putI 68 rfl dX1_init_65 fp_X1_37 rfl (by omega) s0 (fun _ => rfl) (Go.stG S9 e9 ?_)
  have z9 : Zr S9 (k + 14) := by rw [e9]; exact z8.I (by omega)
  refine Go.aload_n 0 69 rfl dX1_init_68 rfl ?_
  refine Go.iconst (0 : Int32) 70 rfl dX1_init_69 ci_0 ?_
  refine Go.putI 73 rfl dX1_init_70 fp_X1_41 rfl (by omega) s0 (fun _ => rfl) (Go.stG S10 e10 ?_)
  have z10 : Zr S10 (k + 14) := by rw [e10]; exact z9.I (by omega)
  refine Go.aload_n 0 74 rfl dX1_init_73 rfl ?_
  refine Go.getR (k' := (k + 7)) 77 rfl dX1_init_74 fl_X1_33 rfl (by omega) s0 (by rw [e10, e9, e8]; simp [stI_22, stR_at3]) ?_
  refine Go.callV (rm := rmM 2) 80 [] [] rfl dX1_init_77 (K_begin (k := k + 7) (by omega) (by rw [s7]) s10 s11 (by rw [e10, e9, e8, e7]; simp [stI_22, stR_at3, stdI]) (by rw [e10, e9, e8, e7]; simp [stI_22, stR_at3, stdI])) cv_X1_44 (by show (k + 7) < (k + 14); omega) (by rw [s7]) ⟨by decide, by decide⟩ ⟨by decide, by decide⟩ rfl (Nat.le_of_ble_eq_true rfl) (Go.stG S11 e11 ?_)
  have z11 : Zr S11 (k + 14) := by rw [e11]; exact begS_z z10 (by omega)
  exact Go.vret rfl dX1_init_80
