/-! written by program: X7_takes X7_takesCard X7_takesQuestion X7_reads X7_fault X7_copies X7_library X7_isCard X7_isQuestion X7_isOf X7_means X7_suits X7_isFit X7_answers -/
theorem dX7_takes_0 : decode cX7_takes 0 = .ok (.aload_n 0, 1) := by decide +kernel
theorem dX7_takes_1 : decode cX7_takes 1 = .ok (.iload_n 1, 1) := by decide +kernel
theorem dX7_takes_2 : decode cX7_takes 2 = .ok (.invokevirtual 89, 3) := by decide +kernel
theorem dX7_takes_5 : decode cX7_takes 5 = .ok (.bipush 48, 2) := by decide +kernel
theorem dX7_takes_7 : decode cX7_takes 7 = .ok (.isub, 1) := by decide +kernel
theorem dX7_takes_8 : decode cX7_takes 8 = .ok (.istore 5, 2) := by decide +kernel
theorem dX7_takes_10 : decode cX7_takes 10 = .ok (.iload 5, 2) := by decide +kernel
theorem dX7_takes_12 : decode cX7_takes 12 = .ok (.i2l, 1) := by decide +kernel
theorem dX7_takes_13 : decode cX7_takes 13 = .ok (.iload_n 3, 1) := by decide +kernel
theorem dX7_takes_14 : decode cX7_takes 14 = .ok (.i2l, 1) := by decide +kernel
theorem dX7_takes_15 : decode cX7_takes 15 = .ok (.iload 4, 2) := by decide +kernel
theorem dX7_takes_17 : decode cX7_takes 17 = .ok (.i2l, 1) := by decide +kernel
theorem dX7_takes_18 : decode cX7_takes 18 = .ok (.invokestatic 66, 3) := by decide +kernel
theorem dX7_takes_21 : decode cX7_takes 21 = .ok (.ifCond .ne 5, 3) := by decide +kernel
theorem dX7_takes_24 : decode cX7_takes 24 = .ok (.iconst 0, 1) := by decide +kernel
theorem dX7_takes_25 : decode cX7_takes 25 = .ok (.ireturn, 1) := by decide +kernel
theorem dX7_takes_26 : decode cX7_takes 26 = .ok (.aload_n 0, 1) := by decide +kernel
theorem dX7_takes_27 : decode cX7_takes 27 = .ok (.getfield 39, 3) := by decide +kernel
theorem dX7_takes_30 : decode cX7_takes 30 = .ok (.iload_n 2, 1) := by decide +kernel
theorem dX7_takes_31 : decode cX7_takes 31 = .ok (.iload 5, 2) := by decide +kernel
theorem dX7_takes_33 : decode cX7_takes 33 = .ok (.iastore, 1) := by decide +kernel
theorem dX7_takes_34 : decode cX7_takes 34 = .ok (.aload_n 0, 1) := by decide +kernel
theorem dX7_takes_35 : decode cX7_takes 35 = .ok (.dup, 1) := by decide +kernel
theorem dX7_takes_36 : decode cX7_takes 36 = .ok (.getfield 86, 3) := by decide +kernel
theorem dX7_takes_39 : decode cX7_takes 39 = .ok (.iconst 1, 1) := by decide +kernel
theorem dX7_takes_40 : decode cX7_takes 40 = .ok (.iadd, 1) := by decide +kernel
theorem dX7_takes_41 : decode cX7_takes 41 = .ok (.putfield 86, 3) := by decide +kernel
theorem dX7_takes_44 : decode cX7_takes 44 = .ok (.iconst 1, 1) := by decide +kernel
theorem dX7_takes_45 : decode cX7_takes 45 = .ok (.ireturn, 1) := by decide +kernel
def F_X7_takes (n : Nat) (S : aSt) (a0 : Nat) (a1 : Int32) (a2 : Int32) (a3 : Int32) (a4 : Int32) : Option (Int32 × aSt) :=
(F_X7_byteAt n S a0 a1).bind fun r2 =>
nm (r2 - (48 : Int32)) fun v8 =>
(F_X7_in n S v8.toInt64 a3.toInt64 a4.toInt64).bind fun r18 =>
if r18 = 0 then (some ((0 : Int32), S)) else
rfd (S.2.2 a0 12) 7 fun k27 =>
grd (inb a2 (SH k27).2) <|
nm (stI S k27 a2.toNatClampNeg v8) fun S33 =>
nm (stI S33 a0 13 ((S33.1 a0 13) + (1 : Int32))) fun S41 =>
some ((1 : Int32), S41)
set_option maxHeartbeats 4000000 in
set_option maxRecDepth 100000 in
theorem C_X7_takes (G : aG) (l : Launch) (n : Nat) (S : aSt) (a0 : Nat) (a1 : Int32) (a2 : Int32) (a3 : Int32) (a4 : Int32) (r : Int32) (Sr : aSt) (ha0 : isT a0 6 = true) (hf : F_X7_takes n S a0 a1 a2 a3 a4 = some (r, Sr)) : Ctr G l yX7_takes mX7_takes (rmM 2) 97 97 S [.ref a0, .int a1, .int a2, .int a3, .int a4] (some (.int r)) Sr := by
  refine Ctr.of (by decide) rfl rfl (Nat.le_of_ble_eq_true rfl) [(0, .ref a0), (1, .int a1), (2, .int a2), (3, .int a3), (4, .int a4)] rfl ?_
  unfold F_X7_takes at hf
  refine Go.aload_n 0 1 rfl dX7_takes_0 rfl ?_
  refine Go.iload_n 1 2 rfl dX7_takes_1 rfl ?_
  obtain ⟨r2, er2, hf⟩ := f_bnd hf
  refine Go.cV 5 [.int a1] [] (C_X7_byteAt G l n S a0 a1 r2 ha0 er2) rfl dX7_takes_2 cv_X7_89 ha0 (by decide) (by decide) rfl (Nat.le_of_ble_eq_true rfl) ?_
  refine Go.bipush (48 : Int32) 7 rfl dX7_takes_5 cb_48 ?_
  refine Go.isub 8 rfl dX7_takes_7 ?_
  obtain ⟨v8, ev8, hf⟩ := f_nm hf
  refine Go.topi v8 ev8 ?_
  refine Go.istore 10 [(5, .int v8), (0, .ref a0), (1, .int a1), (2, .int a2), (3, .int a3), (4, .int a4)] rfl dX7_takes_8 (by decide) rfl ?_
  refine Go.iload 0 12 rfl dX7_takes_10 rfl ?_
  refine Go.i2l 13 rfl dX7_takes_12 ?_
  refine Go.iload_n 4 14 rfl dX7_takes_13 rfl ?_
  refine Go.i2l 15 rfl dX7_takes_14 ?_
  refine Go.iload 5 17 rfl dX7_takes_15 rfl ?_
  refine Go.i2l 18 rfl dX7_takes_17 ?_
  obtain ⟨r18, er18, hf⟩ := f_bnd hf
  refine Go.cS 21 [.long v8.toInt64, .long a3.toInt64, .long a4.toInt64] [] (C_X7_in G l n S v8.toInt64 a3.toInt64 a4.toInt64 r18  er18) rfl dX7_takes_18 cx_X7_66 (by decide) (by decide) rfl (Nat.le_of_ble_eq_true rfl) ?_
  refine Go.if_ne 26 24 rfl dX7_takes_21 rfl (fun hc => ?_) (fun hc => ?_)
  · replace hf := f_el hf hc
    refine Go.aload_n 1 27 rfl dX7_takes_26 rfl ?_
    obtain ⟨k27, qk27, hk27, hf⟩ := f_rfd hf
    refine Go.getR 30 rfl dX7_takes_27 fl_X7_39 rfl (isT_lt ha0) (isT_sh ha0) qk27 ?_
    refine Go.iload_n 3 31 rfl dX7_takes_30 rfl ?_
    refine Go.iload 0 33 rfl dX7_takes_31 rfl ?_
    obtain ⟨g33, hf⟩ := f_grd hf
    obtain ⟨S33, eS33, hf⟩ := f_nm hf
    refine Go.iast 34 rfl dX7_takes_33 (isT_lt hk27) (isT_sh hk27) g33 (Go.stt S33 eS33 ?_)
    refine Go.aload_n 1 35 rfl dX7_takes_34 rfl ?_
    refine Go.dup 36 rfl dX7_takes_35 rfl ?_
    refine Go.getI 39 rfl dX7_takes_36 fl_X7_86 rfl (isT_lt ha0) (isT_sh ha0) ?_
    refine Go.iconst (1 : Int32) 40 rfl dX7_takes_39 ci_1 ?_
    refine Go.iadd 41 rfl dX7_takes_40 ?_
    obtain ⟨S41, eS41, hf⟩ := f_nm hf
    refine Go.putI 44 rfl dX7_takes_41 fp_X7_86 rfl (isT_lt ha0) (isT_sh ha0) (fun h => by cases h) (Go.stt S41 eS41 ?_)
    refine Go.iconst (1 : Int32) 45 rfl dX7_takes_44 ci_1 ?_
    exact Go.zrS rfl (Or.inr rfl) dX7_takes_45 hf
  · replace hf := f_if hf hc
    refine Go.iconst (0 : Int32) 25 rfl dX7_takes_24 ci_0 ?_
    exact Go.zrS rfl (Or.inl rfl) dX7_takes_25 hf
theorem dX7_takesCard_0 : decode cX7_takesCard 0 = .ok (.aload_n 0, 1) := by decide +kernel
theorem dX7_takesCard_1 : decode cX7_takesCard 1 = .ok (.getfield 39, 3) := by decide +kernel
theorem dX7_takesCard_4 : decode cX7_takesCard 4 = .ok (.iconst 0, 1) := by decide +kernel
theorem dX7_takesCard_5 : decode cX7_takesCard 5 = .ok (.iaload, 1) := by decide +kernel
theorem dX7_takesCard_6 : decode cX7_takesCard 6 = .ok (.istore_n 2, 1) := by decide +kernel
theorem dX7_takesCard_7 : decode cX7_takesCard 7 = .ok (.aload_n 0, 1) := by decide +kernel
theorem dX7_takesCard_8 : decode cX7_takesCard 8 = .ok (.iload_n 1, 1) := by decide +kernel
theorem dX7_takesCard_9 : decode cX7_takesCard 9 = .ok (.invokevirtual 89, 3) := by decide +kernel
theorem dX7_takesCard_12 : decode cX7_takesCard 12 = .ok (.invokestatic 92, 3) := by decide +kernel
theorem dX7_takesCard_15 : decode cX7_takesCard 15 = .ok (.istore_n 3, 1) := by decide +kernel
theorem dX7_takesCard_16 : decode cX7_takesCard 16 = .ok (.iload_n 3, 1) := by decide +kernel
theorem dX7_takesCard_17 : decode cX7_takesCard 17 = .ok (.ifCond .lt 18, 3) := by decide +kernel
theorem dX7_takesCard_20 : decode cX7_takesCard 20 = .ok (.iload_n 2, 1) := by decide +kernel
theorem dX7_takesCard_21 : decode cX7_takesCard 21 = .ok (.bipush 7, 2) := by decide +kernel
theorem dX7_takesCard_23 : decode cX7_takesCard 23 = .ok (.if_icmp .eq 12, 3) := by decide +kernel
theorem dX7_takesCard_26 : decode cX7_takesCard 26 = .ok (.aload_n 0, 1) := by decide +kernel
theorem dX7_takesCard_27 : decode cX7_takesCard 27 = .ok (.getfield 39, 3) := by decide +kernel
theorem dX7_takesCard_30 : decode cX7_takesCard 30 = .ok (.iconst 1, 1) := by decide +kernel
theorem dX7_takesCard_31 : decode cX7_takesCard 31 = .ok (.iaload, 1) := by decide +kernel
theorem dX7_takesCard_32 : decode cX7_takesCard 32 = .ok (.ifCond .le 5, 3) := by decide +kernel
theorem dX7_takesCard_35 : decode cX7_takesCard 35 = .ok (.iconst 0, 1) := by decide +kernel
theorem dX7_takesCard_36 : decode cX7_takesCard 36 = .ok (.ireturn, 1) := by decide +kernel
theorem dX7_takesCard_37 : decode cX7_takesCard 37 = .ok (.aload_n 0, 1) := by decide +kernel
theorem dX7_takesCard_38 : decode cX7_takesCard 38 = .ok (.dup, 1) := by decide +kernel
theorem dX7_takesCard_39 : decode cX7_takesCard 39 = .ok (.getfield 86, 3) := by decide +kernel
theorem dX7_takesCard_42 : decode cX7_takesCard 42 = .ok (.iconst 1, 1) := by decide +kernel
theorem dX7_takesCard_43 : decode cX7_takesCard 43 = .ok (.iadd, 1) := by decide +kernel
theorem dX7_takesCard_44 : decode cX7_takesCard 44 = .ok (.putfield 86, 3) := by decide +kernel
theorem dX7_takesCard_47 : decode cX7_takesCard 47 = .ok (.aload_n 0, 1) := by decide +kernel
theorem dX7_takesCard_48 : decode cX7_takesCard 48 = .ok (.getfield 39, 3) := by decide +kernel
theorem dX7_takesCard_51 : decode cX7_takesCard 51 = .ok (.iconst 3, 1) := by decide +kernel
theorem dX7_takesCard_52 : decode cX7_takesCard 52 = .ok (.iload_n 2, 1) := by decide +kernel
theorem dX7_takesCard_53 : decode cX7_takesCard 53 = .ok (.iadd, 1) := by decide +kernel
theorem dX7_takesCard_54 : decode cX7_takesCard 54 = .ok (.iload_n 3, 1) := by decide +kernel
theorem dX7_takesCard_55 : decode cX7_takesCard 55 = .ok (.iastore, 1) := by decide +kernel
theorem dX7_takesCard_56 : decode cX7_takesCard 56 = .ok (.aload_n 0, 1) := by decide +kernel
theorem dX7_takesCard_57 : decode cX7_takesCard 57 = .ok (.getfield 39, 3) := by decide +kernel
theorem dX7_takesCard_60 : decode cX7_takesCard 60 = .ok (.iconst 0, 1) := by decide +kernel
theorem dX7_takesCard_61 : decode cX7_takesCard 61 = .ok (.dup2, 1) := by decide +kernel
theorem dX7_takesCard_62 : decode cX7_takesCard 62 = .ok (.iaload, 1) := by decide +kernel
theorem dX7_takesCard_63 : decode cX7_takesCard 63 = .ok (.iconst 1, 1) := by decide +kernel
theorem dX7_takesCard_64 : decode cX7_takesCard 64 = .ok (.iadd, 1) := by decide +kernel
theorem dX7_takesCard_65 : decode cX7_takesCard 65 = .ok (.iastore, 1) := by decide +kernel
theorem dX7_takesCard_66 : decode cX7_takesCard 66 = .ok (.aload_n 0, 1) := by decide +kernel
theorem dX7_takesCard_67 : decode cX7_takesCard 67 = .ok (.iload_n 1, 1) := by decide +kernel
theorem dX7_takesCard_68 : decode cX7_takesCard 68 = .ok (.bipush 10, 2) := by decide +kernel
theorem dX7_takesCard_70 : decode cX7_takesCard 70 = .ok (.iload_n 2, 1) := by decide +kernel
theorem dX7_takesCard_71 : decode cX7_takesCard 71 = .ok (.iadd, 1) := by decide +kernel
theorem dX7_takesCard_72 : decode cX7_takesCard 72 = .ok (.iconst 0, 1) := by decide +kernel
theorem dX7_takesCard_73 : decode cX7_takesCard 73 = .ok (.bipush 9, 2) := by decide +kernel
theorem dX7_takesCard_75 : decode cX7_takesCard 75 = .ok (.invokevirtual 95, 3) := by decide +kernel
theorem dX7_takesCard_78 : decode cX7_takesCard 78 = .ok (.ifCond .eq 36, 3) := by decide +kernel
theorem dX7_takesCard_81 : decode cX7_takesCard 81 = .ok (.aload_n 0, 1) := by decide +kernel
theorem dX7_takesCard_82 : decode cX7_takesCard 82 = .ok (.iload_n 1, 1) := by decide +kernel
theorem dX7_takesCard_83 : decode cX7_takesCard 83 = .ok (.bipush 17, 2) := by decide +kernel
theorem dX7_takesCard_85 : decode cX7_takesCard 85 = .ok (.iload_n 2, 1) := by decide +kernel
theorem dX7_takesCard_86 : decode cX7_takesCard 86 = .ok (.iadd, 1) := by decide +kernel
theorem dX7_takesCard_87 : decode cX7_takesCard 87 = .ok (.iconst 0, 1) := by decide +kernel
theorem dX7_takesCard_88 : decode cX7_takesCard 88 = .ok (.iconst 3, 1) := by decide +kernel
theorem dX7_takesCard_89 : decode cX7_takesCard 89 = .ok (.invokevirtual 95, 3) := by decide +kernel
theorem dX7_takesCard_92 : decode cX7_takesCard 92 = .ok (.ifCond .eq 22, 3) := by decide +kernel
theorem dX7_takesCard_95 : decode cX7_takesCard 95 = .ok (.aload_n 0, 1) := by decide +kernel
theorem dX7_takesCard_96 : decode cX7_takesCard 96 = .ok (.iload_n 1, 1) := by decide +kernel
theorem dX7_takesCard_97 : decode cX7_takesCard 97 = .ok (.bipush 24, 2) := by decide +kernel
theorem dX7_takesCard_99 : decode cX7_takesCard 99 = .ok (.iload_n 2, 1) := by decide +kernel
theorem dX7_takesCard_100 : decode cX7_takesCard 100 = .ok (.iadd, 1) := by decide +kernel
theorem dX7_takesCard_101 : decode cX7_takesCard 101 = .ok (.iconst 0, 1) := by decide +kernel
theorem dX7_takesCard_102 : decode cX7_takesCard 102 = .ok (.bipush 9, 2) := by decide +kernel
theorem dX7_takesCard_104 : decode cX7_takesCard 104 = .ok (.invokevirtual 95, 3) := by decide +kernel
theorem dX7_takesCard_107 : decode cX7_takesCard 107 = .ok (.ifCond .eq 7, 3) := by decide +kernel
theorem dX7_takesCard_110 : decode cX7_takesCard 110 = .ok (.iconst 1, 1) := by decide +kernel
theorem dX7_takesCard_111 : decode cX7_takesCard 111 = .ok (.goto 4, 3) := by decide +kernel
theorem dX7_takesCard_114 : decode cX7_takesCard 114 = .ok (.iconst 0, 1) := by decide +kernel
theorem dX7_takesCard_115 : decode cX7_takesCard 115 = .ok (.ireturn, 1) := by decide +kernel
def F_X7_takesCard (n : Nat) (S : aSt) (a0 : Nat) (a1 : Int32) : Option (Int32 × aSt) :=
rfd (S.2.2 a0 12) 7 fun k1 =>
grd (inb (0 : Int32) (SH k1).2) <|
nm (S.1 k1 (0 : Int32).toNatClampNeg) fun v6 =>
(F_X7_byteAt n S a0 a1).bind fun r9 =>
(F_X7_kindOf n S r9).bind fun r12 =>
if r12 < 0 then (some ((0 : Int32), S)) else
if v6 = (7 : Int32) then (some ((0 : Int32), S)) else
grd (inb (1 : Int32) (SH k1).2) <|
if (S.1 k1 (1 : Int32).toNatClampNeg) ≤ 0 then (nm (stI S a0 13 ((S.1 a0 13) + (1 : Int32))) fun S44 =>
rfd (S44.2.2 a0 12) 7 fun k48 =>
grd (inb ((3 : Int32) + v6) (SH k48).2) <|
nm (stI S44 k48 ((3 : Int32) + v6).toNatClampNeg r12) fun S55 =>
rfd (S55.2.2 a0 12) 7 fun k57 =>
grd (inb (0 : Int32) (SH k57).2) <|
grd (inb (0 : Int32) (SH k57).2) <|
nm (stI S55 k57 (0 : Int32).toNatClampNeg ((S55.1 k57 (0 : Int32).toNatClampNeg) + (1 : Int32))) fun S65 =>
bn2 (F_X7_takes n S65 a0 a1 ((10 : Int32) + v6) (0 : Int32) (9 : Int32)) fun r75 S75 =>
if r75 = 0 then (some ((0 : Int32), S75)) else
bn2 (F_X7_takes n S75 a0 a1 ((17 : Int32) + v6) (0 : Int32) (3 : Int32)) fun r89 S89 =>
if r89 = 0 then (some ((0 : Int32), S89)) else
bn2 (F_X7_takes n S89 a0 a1 ((24 : Int32) + v6) (0 : Int32) (9 : Int32)) fun r104 S104 =>
if r104 = 0 then (some ((0 : Int32), S104)) else
some ((1 : Int32), S104)) else
some ((0 : Int32), S)
set_option maxHeartbeats 4000000 in
set_option maxRecDepth 100000 in
theorem C_X7_takesCard (G : aG) (l : Launch) (n : Nat) (S : aSt) (a0 : Nat) (a1 : Int32) (r : Int32) (Sr : aSt) (ha0 : isT a0 6 = true) (hf : F_X7_takesCard n S a0 a1 = some (r, Sr)) : Ctr G l yX7_takesCard mX7_takesCard (rmM 3) 97 97 S [.ref a0, .int a1] (some (.int r)) Sr := by
  refine Ctr.of (by decide) rfl rfl (Nat.le_of_ble_eq_true rfl) [(0, .ref a0), (1, .int a1)] rfl ?_
  unfold F_X7_takesCard at hf
  refine Go.aload_n 0 1 rfl dX7_takesCard_0 rfl ?_
  obtain ⟨k1, qk1, hk1, hf⟩ := f_rfd hf
  refine Go.getR 4 rfl dX7_takesCard_1 fl_X7_39 rfl (isT_lt ha0) (isT_sh ha0) qk1 ?_
  refine Go.iconst (0 : Int32) 5 rfl dX7_takesCard_4 ci_0 ?_
  obtain ⟨g5, hf⟩ := f_grd hf
  refine Go.iald 6 rfl dX7_takesCard_5 (isT_lt hk1) (isT_sh hk1) g5 ?_
  obtain ⟨v6, ev6, hf⟩ := f_nm hf
  refine Go.topi v6 ev6 ?_
  refine Go.istore_n 7 [(2, .int v6), (0, .ref a0), (1, .int a1)] rfl dX7_takesCard_6 (by decide) rfl ?_
  refine Go.aload_n 1 8 rfl dX7_takesCard_7 rfl ?_
  refine Go.iload_n 2 9 rfl dX7_takesCard_8 rfl ?_
  obtain ⟨r9, er9, hf⟩ := f_bnd hf
  refine Go.cV 12 [.int a1] [] (C_X7_byteAt G l n S a0 a1 r9 ha0 er9) rfl dX7_takesCard_9 cv_X7_89 ha0 (by decide) (by decide) rfl (Nat.le_of_ble_eq_true rfl) ?_
  obtain ⟨r12, er12, hf⟩ := f_bnd hf
  refine Go.cS 15 [.int r9] [] (C_X7_kindOf G l n S r9 r12  er12) rfl dX7_takesCard_12 cx_X7_92 (by decide) (by decide) rfl (Nat.le_of_ble_eq_true rfl) ?_
  refine Go.istore_n 16 [(3, .int r12), (2, .int v6), (0, .ref a0), (1, .int a1)] rfl dX7_takesCard_15 (by decide) rfl ?_
  refine Go.iload_n 0 17 rfl dX7_takesCard_16 rfl ?_
  refine Go.if_lt 35 20 rfl dX7_takesCard_17 rfl (fun hc => ?_) (fun hc => ?_)
  · replace hf := f_if hf hc
    refine Go.iconst (0 : Int32) 36 rfl dX7_takesCard_35 ci_0 ?_
    exact Go.zrS rfl (Or.inl rfl) dX7_takesCard_36 hf
  · replace hf := f_el hf hc
    refine Go.iload_n 1 21 rfl dX7_takesCard_20 rfl ?_
    refine Go.bipush (7 : Int32) 23 rfl dX7_takesCard_21 cb_7 ?_
    refine Go.icmp_eq 35 26 rfl dX7_takesCard_23 rfl (fun hc => ?_) (fun hc => ?_)
    · replace hf := f_if hf hc
      refine Go.iconst (0 : Int32) 36 rfl dX7_takesCard_35 ci_0 ?_
      exact Go.zrS rfl (Or.inl rfl) dX7_takesCard_36 hf
    · replace hf := f_el hf hc
      refine Go.aload_n 2 27 rfl dX7_takesCard_26 rfl ?_
      refine Go.getR 30 rfl dX7_takesCard_27 fl_X7_39 rfl (isT_lt ha0) (isT_sh ha0) qk1 ?_
      refine Go.iconst (1 : Int32) 31 rfl dX7_takesCard_30 ci_1 ?_
      obtain ⟨g31, hf⟩ := f_grd hf
      refine Go.iald 32 rfl dX7_takesCard_31 (isT_lt hk1) (isT_sh hk1) g31 ?_
      refine Go.if_le 37 35 rfl dX7_takesCard_32 rfl (fun hc => ?_) (fun hc => ?_)
      · replace hf := f_if hf hc
        refine Go.aload_n 2 38 rfl dX7_takesCard_37 rfl ?_
        refine Go.dup 39 rfl dX7_takesCard_38 rfl ?_
        refine Go.getI 42 rfl dX7_takesCard_39 fl_X7_86 rfl (isT_lt ha0) (isT_sh ha0) ?_
        refine Go.iconst (1 : Int32) 43 rfl dX7_takesCard_42 ci_1 ?_
        refine Go.iadd 44 rfl dX7_takesCard_43 ?_
        obtain ⟨S44, eS44, hf⟩ := f_nm hf
        refine Go.putI 47 rfl dX7_takesCard_44 fp_X7_86 rfl (isT_lt ha0) (isT_sh ha0) (fun h => by cases h) (Go.stt S44 eS44 ?_)
        refine Go.aload_n 2 48 rfl dX7_takesCard_47 rfl ?_
        obtain ⟨k48, qk48, hk48, hf⟩ := f_rfd hf
        refine Go.getR 51 rfl dX7_takesCard_48 fl_X7_39 rfl (isT_lt ha0) (isT_sh ha0) qk48 ?_
        refine Go.iconst (3 : Int32) 52 rfl dX7_takesCard_51 ci_3 ?_
        refine Go.iload_n 1 53 rfl dX7_takesCard_52 rfl ?_
        refine Go.iadd 54 rfl dX7_takesCard_53 ?_
        refine Go.iload_n 0 55 rfl dX7_takesCard_54 rfl ?_
        obtain ⟨g55, hf⟩ := f_grd hf
        obtain ⟨S55, eS55, hf⟩ := f_nm hf
        refine Go.iast 56 rfl dX7_takesCard_55 (isT_lt hk48) (isT_sh hk48) g55 (Go.stt S55 eS55 ?_)
        refine Go.aload_n 2 57 rfl dX7_takesCard_56 rfl ?_
        obtain ⟨k57, qk57, hk57, hf⟩ := f_rfd hf
        refine Go.getR 60 rfl dX7_takesCard_57 fl_X7_39 rfl (isT_lt ha0) (isT_sh ha0) qk57 ?_
        refine Go.iconst (0 : Int32) 61 rfl dX7_takesCard_60 ci_0 ?_
        refine Go.dup2 62 rfl dX7_takesCard_61 rfl rfl ?_
        obtain ⟨g62, hf⟩ := f_grd hf
        refine Go.iald 63 rfl dX7_takesCard_62 (isT_lt hk57) (isT_sh hk57) g62 ?_
        refine Go.iconst (1 : Int32) 64 rfl dX7_takesCard_63 ci_1 ?_
        refine Go.iadd 65 rfl dX7_takesCard_64 ?_
        obtain ⟨g65, hf⟩ := f_grd hf
        obtain ⟨S65, eS65, hf⟩ := f_nm hf
        refine Go.iast 66 rfl dX7_takesCard_65 (isT_lt hk57) (isT_sh hk57) g65 (Go.stt S65 eS65 ?_)
        refine Go.aload_n 2 67 rfl dX7_takesCard_66 rfl ?_
        refine Go.iload_n 3 68 rfl dX7_takesCard_67 rfl ?_
        refine Go.bipush (10 : Int32) 70 rfl dX7_takesCard_68 cb_10 ?_
        refine Go.iload_n 1 71 rfl dX7_takesCard_70 rfl ?_
        refine Go.iadd 72 rfl dX7_takesCard_71 ?_
        refine Go.iconst (0 : Int32) 73 rfl dX7_takesCard_72 ci_0 ?_
        refine Go.bipush (9 : Int32) 75 rfl dX7_takesCard_73 cb_9 ?_
        obtain ⟨r75, S75, er75, hf⟩ := f_bn2 hf
        refine Go.cV 78 [.int a1, .int ((10 : Int32) + v6), .int (0 : Int32), .int (9 : Int32)] [] (C_X7_takes G l n S65 a0 a1 ((10 : Int32) + v6) (0 : Int32) (9 : Int32) r75 S75 ha0 er75) rfl dX7_takesCard_75 cv_X7_95 ha0 (by decide) (by decide) rfl (Nat.le_of_ble_eq_true rfl) ?_
        refine Go.if_eq 114 81 rfl dX7_takesCard_78 rfl (fun hc => ?_) (fun hc => ?_)
        · replace hf := f_if hf hc
          refine Go.iconst (0 : Int32) 115 rfl dX7_takesCard_114 ci_0 ?_
          exact Go.zrS rfl (Or.inl rfl) dX7_takesCard_115 hf
        · replace hf := f_el hf hc
          refine Go.aload_n 2 82 rfl dX7_takesCard_81 rfl ?_
          refine Go.iload_n 3 83 rfl dX7_takesCard_82 rfl ?_
          refine Go.bipush (17 : Int32) 85 rfl dX7_takesCard_83 cb_17 ?_
          refine Go.iload_n 1 86 rfl dX7_takesCard_85 rfl ?_
          refine Go.iadd 87 rfl dX7_takesCard_86 ?_
          refine Go.iconst (0 : Int32) 88 rfl dX7_takesCard_87 ci_0 ?_
          refine Go.iconst (3 : Int32) 89 rfl dX7_takesCard_88 ci_3 ?_
          obtain ⟨r89, S89, er89, hf⟩ := f_bn2 hf
          refine Go.cV 92 [.int a1, .int ((17 : Int32) + v6), .int (0 : Int32), .int (3 : Int32)] [] (C_X7_takes G l n S75 a0 a1 ((17 : Int32) + v6) (0 : Int32) (3 : Int32) r89 S89 ha0 er89) rfl dX7_takesCard_89 cv_X7_95 ha0 (by decide) (by decide) rfl (Nat.le_of_ble_eq_true rfl) ?_
          refine Go.if_eq 114 95 rfl dX7_takesCard_92 rfl (fun hc => ?_) (fun hc => ?_)
          · replace hf := f_if hf hc
            refine Go.iconst (0 : Int32) 115 rfl dX7_takesCard_114 ci_0 ?_
            exact Go.zrS rfl (Or.inl rfl) dX7_takesCard_115 hf
          · replace hf := f_el hf hc
            refine Go.aload_n 2 96 rfl dX7_takesCard_95 rfl ?_
            refine Go.iload_n 3 97 rfl dX7_takesCard_96 rfl ?_
            refine Go.bipush (24 : Int32) 99 rfl dX7_takesCard_97 cb_24 ?_
            refine Go.iload_n 1 100 rfl dX7_takesCard_99 rfl ?_
            refine Go.iadd 101 rfl dX7_takesCard_100 ?_
            refine Go.iconst (0 : Int32) 102 rfl dX7_takesCard_101 ci_0 ?_
            refine Go.bipush (9 : Int32) 104 rfl dX7_takesCard_102 cb_9 ?_
            obtain ⟨r104, S104, er104, hf⟩ := f_bn2 hf
            refine Go.cV 107 [.int a1, .int ((24 : Int32) + v6), .int (0 : Int32), .int (9 : Int32)] [] (C_X7_takes G l n S89 a0 a1 ((24 : Int32) + v6) (0 : Int32) (9 : Int32) r104 S104 ha0 er104) rfl dX7_takesCard_104 cv_X7_95 ha0 (by decide) (by decide) rfl (Nat.le_of_ble_eq_true rfl) ?_
            refine Go.if_eq 114 110 rfl dX7_takesCard_107 rfl (fun hc => ?_) (fun hc => ?_)
            · replace hf := f_if hf hc
              refine Go.iconst (0 : Int32) 115 rfl dX7_takesCard_114 ci_0 ?_
              exact Go.zrS rfl (Or.inl rfl) dX7_takesCard_115 hf
            · replace hf := f_el hf hc
              refine Go.iconst (1 : Int32) 111 rfl dX7_takesCard_110 ci_1 ?_
              refine Go.goto 115 dX7_takesCard_111 rfl ?_
              exact Go.zrS rfl (Or.inr rfl) dX7_takesCard_115 hf
      · replace hf := f_el hf hc
        refine Go.iconst (0 : Int32) 36 rfl dX7_takesCard_35 ci_0 ?_
        exact Go.zrS rfl (Or.inl rfl) dX7_takesCard_36 hf
theorem dX7_takesQuestion_0 : decode cX7_takesQuestion 0 = .ok (.aload_n 0, 1) := by decide +kernel
theorem dX7_takesQuestion_1 : decode cX7_takesQuestion 1 = .ok (.getfield 39, 3) := by decide +kernel
theorem dX7_takesQuestion_4 : decode cX7_takesQuestion 4 = .ok (.iconst 1, 1) := by decide +kernel
theorem dX7_takesQuestion_5 : decode cX7_takesQuestion 5 = .ok (.iaload, 1) := by decide +kernel
theorem dX7_takesQuestion_6 : decode cX7_takesQuestion 6 = .ok (.istore_n 2, 1) := by decide +kernel
theorem dX7_takesQuestion_7 : decode cX7_takesQuestion 7 = .ok (.aload_n 0, 1) := by decide +kernel
theorem dX7_takesQuestion_8 : decode cX7_takesQuestion 8 = .ok (.getfield 39, 3) := by decide +kernel
theorem dX7_takesQuestion_11 : decode cX7_takesQuestion 11 = .ok (.iconst 0, 1) := by decide +kernel
theorem dX7_takesQuestion_12 : decode cX7_takesQuestion 12 = .ok (.iaload, 1) := by decide +kernel
theorem dX7_takesQuestion_13 : decode cX7_takesQuestion 13 = .ok (.ifCond .eq 9, 3) := by decide +kernel
theorem dX7_takesQuestion_16 : decode cX7_takesQuestion 16 = .ok (.iload_n 2, 1) := by decide +kernel
theorem dX7_takesQuestion_17 : decode cX7_takesQuestion 17 = .ok (.bipush 7, 2) := by decide +kernel
theorem dX7_takesQuestion_19 : decode cX7_takesQuestion 19 = .ok (.if_icmp .ne 5, 3) := by decide +kernel
theorem dX7_takesQuestion_22 : decode cX7_takesQuestion 22 = .ok (.iconst 0, 1) := by decide +kernel
theorem dX7_takesQuestion_23 : decode cX7_takesQuestion 23 = .ok (.ireturn, 1) := by decide +kernel
theorem dX7_takesQuestion_24 : decode cX7_takesQuestion 24 = .ok (.aload_n 0, 1) := by decide +kernel
theorem dX7_takesQuestion_25 : decode cX7_takesQuestion 25 = .ok (.dup, 1) := by decide +kernel
theorem dX7_takesQuestion_26 : decode cX7_takesQuestion 26 = .ok (.getfield 86, 3) := by decide +kernel
theorem dX7_takesQuestion_29 : decode cX7_takesQuestion 29 = .ok (.iconst 1, 1) := by decide +kernel
theorem dX7_takesQuestion_30 : decode cX7_takesQuestion 30 = .ok (.iadd, 1) := by decide +kernel
theorem dX7_takesQuestion_31 : decode cX7_takesQuestion 31 = .ok (.putfield 86, 3) := by decide +kernel
theorem dX7_takesQuestion_34 : decode cX7_takesQuestion 34 = .ok (.aload_n 0, 1) := by decide +kernel
theorem dX7_takesQuestion_35 : decode cX7_takesQuestion 35 = .ok (.getfield 39, 3) := by decide +kernel
theorem dX7_takesQuestion_38 : decode cX7_takesQuestion 38 = .ok (.iconst 1, 1) := by decide +kernel
theorem dX7_takesQuestion_39 : decode cX7_takesQuestion 39 = .ok (.dup2, 1) := by decide +kernel
theorem dX7_takesQuestion_40 : decode cX7_takesQuestion 40 = .ok (.iaload, 1) := by decide +kernel
theorem dX7_takesQuestion_41 : decode cX7_takesQuestion 41 = .ok (.iconst 1, 1) := by decide +kernel
theorem dX7_takesQuestion_42 : decode cX7_takesQuestion 42 = .ok (.iadd, 1) := by decide +kernel
theorem dX7_takesQuestion_43 : decode cX7_takesQuestion 43 = .ok (.iastore, 1) := by decide +kernel
theorem dX7_takesQuestion_44 : decode cX7_takesQuestion 44 = .ok (.aload_n 0, 1) := by decide +kernel
theorem dX7_takesQuestion_45 : decode cX7_takesQuestion 45 = .ok (.iload_n 1, 1) := by decide +kernel
theorem dX7_takesQuestion_46 : decode cX7_takesQuestion 46 = .ok (.bipush 31, 2) := by decide +kernel
theorem dX7_takesQuestion_48 : decode cX7_takesQuestion 48 = .ok (.iload_n 2, 1) := by decide +kernel
theorem dX7_takesQuestion_49 : decode cX7_takesQuestion 49 = .ok (.iadd, 1) := by decide +kernel
theorem dX7_takesQuestion_50 : decode cX7_takesQuestion 50 = .ok (.iconst 0, 1) := by decide +kernel
theorem dX7_takesQuestion_51 : decode cX7_takesQuestion 51 = .ok (.iconst 5, 1) := by decide +kernel
theorem dX7_takesQuestion_52 : decode cX7_takesQuestion 52 = .ok (.invokevirtual 95, 3) := by decide +kernel
theorem dX7_takesQuestion_55 : decode cX7_takesQuestion 55 = .ok (.ifCond .eq 60, 3) := by decide +kernel
theorem dX7_takesQuestion_58 : decode cX7_takesQuestion 58 = .ok (.aload_n 0, 1) := by decide +kernel
theorem dX7_takesQuestion_59 : decode cX7_takesQuestion 59 = .ok (.iload_n 1, 1) := by decide +kernel
theorem dX7_takesQuestion_60 : decode cX7_takesQuestion 60 = .ok (.bipush 38, 2) := by decide +kernel
theorem dX7_takesQuestion_62 : decode cX7_takesQuestion 62 = .ok (.iload_n 2, 1) := by decide +kernel
theorem dX7_takesQuestion_63 : decode cX7_takesQuestion 63 = .ok (.iadd, 1) := by decide +kernel
theorem dX7_takesQuestion_64 : decode cX7_takesQuestion 64 = .ok (.iconst 0, 1) := by decide +kernel
theorem dX7_takesQuestion_65 : decode cX7_takesQuestion 65 = .ok (.bipush 9, 2) := by decide +kernel
theorem dX7_takesQuestion_67 : decode cX7_takesQuestion 67 = .ok (.invokevirtual 95, 3) := by decide +kernel
theorem dX7_takesQuestion_70 : decode cX7_takesQuestion 70 = .ok (.ifCond .eq 45, 3) := by decide +kernel
theorem dX7_takesQuestion_73 : decode cX7_takesQuestion 73 = .ok (.aload_n 0, 1) := by decide +kernel
theorem dX7_takesQuestion_74 : decode cX7_takesQuestion 74 = .ok (.iload_n 1, 1) := by decide +kernel
theorem dX7_takesQuestion_75 : decode cX7_takesQuestion 75 = .ok (.bipush 45, 2) := by decide +kernel
theorem dX7_takesQuestion_77 : decode cX7_takesQuestion 77 = .ok (.iload_n 2, 1) := by decide +kernel
theorem dX7_takesQuestion_78 : decode cX7_takesQuestion 78 = .ok (.iadd, 1) := by decide +kernel
theorem dX7_takesQuestion_79 : decode cX7_takesQuestion 79 = .ok (.aload_n 0, 1) := by decide +kernel
theorem dX7_takesQuestion_80 : decode cX7_takesQuestion 80 = .ok (.getfield 39, 3) := by decide +kernel
theorem dX7_takesQuestion_83 : decode cX7_takesQuestion 83 = .ok (.bipush 38, 2) := by decide +kernel
theorem dX7_takesQuestion_85 : decode cX7_takesQuestion 85 = .ok (.iload_n 2, 1) := by decide +kernel
theorem dX7_takesQuestion_86 : decode cX7_takesQuestion 86 = .ok (.iadd, 1) := by decide +kernel
theorem dX7_takesQuestion_87 : decode cX7_takesQuestion 87 = .ok (.iaload, 1) := by decide +kernel
theorem dX7_takesQuestion_88 : decode cX7_takesQuestion 88 = .ok (.bipush 9, 2) := by decide +kernel
theorem dX7_takesQuestion_90 : decode cX7_takesQuestion 90 = .ok (.invokevirtual 95, 3) := by decide +kernel
theorem dX7_takesQuestion_93 : decode cX7_takesQuestion 93 = .ok (.ifCond .eq 22, 3) := by decide +kernel
theorem dX7_takesQuestion_96 : decode cX7_takesQuestion 96 = .ok (.aload_n 0, 1) := by decide +kernel
theorem dX7_takesQuestion_97 : decode cX7_takesQuestion 97 = .ok (.iload_n 1, 1) := by decide +kernel
theorem dX7_takesQuestion_98 : decode cX7_takesQuestion 98 = .ok (.bipush 52, 2) := by decide +kernel
theorem dX7_takesQuestion_100 : decode cX7_takesQuestion 100 = .ok (.iload_n 2, 1) := by decide +kernel
theorem dX7_takesQuestion_101 : decode cX7_takesQuestion 101 = .ok (.iadd, 1) := by decide +kernel
theorem dX7_takesQuestion_102 : decode cX7_takesQuestion 102 = .ok (.iconst 1, 1) := by decide +kernel
theorem dX7_takesQuestion_103 : decode cX7_takesQuestion 103 = .ok (.bipush 9, 2) := by decide +kernel
theorem dX7_takesQuestion_105 : decode cX7_takesQuestion 105 = .ok (.invokevirtual 95, 3) := by decide +kernel
theorem dX7_takesQuestion_108 : decode cX7_takesQuestion 108 = .ok (.ifCond .eq 7, 3) := by decide +kernel
theorem dX7_takesQuestion_111 : decode cX7_takesQuestion 111 = .ok (.iconst 1, 1) := by decide +kernel
theorem dX7_takesQuestion_112 : decode cX7_takesQuestion 112 = .ok (.goto 4, 3) := by decide +kernel
theorem dX7_takesQuestion_115 : decode cX7_takesQuestion 115 = .ok (.iconst 0, 1) := by decide +kernel
theorem dX7_takesQuestion_116 : decode cX7_takesQuestion 116 = .ok (.ireturn, 1) := by decide +kernel
def F_X7_takesQuestion (n : Nat) (S : aSt) (a0 : Nat) (a1 : Int32) : Option (Int32 × aSt) :=
rfd (S.2.2 a0 12) 7 fun k1 =>
grd (inb (1 : Int32) (SH k1).2) <|
nm (S.1 k1 (1 : Int32).toNatClampNeg) fun v6 =>
grd (inb (0 : Int32) (SH k1).2) <|
if (S.1 k1 (0 : Int32).toNatClampNeg) = 0 then (some ((0 : Int32), S)) else
if v6 = (7 : Int32) then (some ((0 : Int32), S)) else
nm (stI S a0 13 ((S.1 a0 13) + (1 : Int32))) fun S31 =>
rfd (S31.2.2 a0 12) 7 fun k35 =>
grd (inb (1 : Int32) (SH k35).2) <|
grd (inb (1 : Int32) (SH k35).2) <|
nm (stI S31 k35 (1 : Int32).toNatClampNeg ((S31.1 k35 (1 : Int32).toNatClampNeg) + (1 : Int32))) fun S43 =>
bn2 (F_X7_takes n S43 a0 a1 ((31 : Int32) + v6) (0 : Int32) (5 : Int32)) fun r52 S52 =>
if r52 = 0 then (some ((0 : Int32), S52)) else
bn2 (F_X7_takes n S52 a0 a1 ((38 : Int32) + v6) (0 : Int32) (9 : Int32)) fun r67 S67 =>
if r67 = 0 then (some ((0 : Int32), S67)) else
rfd (S67.2.2 a0 12) 7 fun k80 =>
grd (inb ((38 : Int32) + v6) (SH k80).2) <|
bn2 (F_X7_takes n S67 a0 a1 ((45 : Int32) + v6) (S67.1 k80 ((38 : Int32) + v6).toNatClampNeg) (9 : Int32)) fun r90 S90 =>
if r90 = 0 then (some ((0 : Int32), S90)) else
bn2 (F_X7_takes n S90 a0 a1 ((52 : Int32) + v6) (1 : Int32) (9 : Int32)) fun r105 S105 =>
if r105 = 0 then (some ((0 : Int32), S105)) else
some ((1 : Int32), S105)
set_option maxHeartbeats 4000000 in
set_option maxRecDepth 100000 in
theorem C_X7_takesQuestion (G : aG) (l : Launch) (n : Nat) (S : aSt) (a0 : Nat) (a1 : Int32) (r : Int32) (Sr : aSt) (ha0 : isT a0 6 = true) (hf : F_X7_takesQuestion n S a0 a1 = some (r, Sr)) : Ctr G l yX7_takesQuestion mX7_takesQuestion (rmM 3) 97 97 S [.ref a0, .int a1] (some (.int r)) Sr := by
  refine Ctr.of (by decide) rfl rfl (Nat.le_of_ble_eq_true rfl) [(0, .ref a0), (1, .int a1)] rfl ?_
  unfold F_X7_takesQuestion at hf
  refine Go.aload_n 0 1 rfl dX7_takesQuestion_0 rfl ?_
  obtain ⟨k1, qk1, hk1, hf⟩ := f_rfd hf
  refine Go.getR 4 rfl dX7_takesQuestion_1 fl_X7_39 rfl (isT_lt ha0) (isT_sh ha0) qk1 ?_
  refine Go.iconst (1 : Int32) 5 rfl dX7_takesQuestion_4 ci_1 ?_
  obtain ⟨g5, hf⟩ := f_grd hf
  refine Go.iald 6 rfl dX7_takesQuestion_5 (isT_lt hk1) (isT_sh hk1) g5 ?_
  obtain ⟨v6, ev6, hf⟩ := f_nm hf
  refine Go.topi v6 ev6 ?_
  refine Go.istore_n 7 [(2, .int v6), (0, .ref a0), (1, .int a1)] rfl dX7_takesQuestion_6 (by decide) rfl ?_
  refine Go.aload_n 1 8 rfl dX7_takesQuestion_7 rfl ?_
  refine Go.getR 11 rfl dX7_takesQuestion_8 fl_X7_39 rfl (isT_lt ha0) (isT_sh ha0) qk1 ?_
  refine Go.iconst (0 : Int32) 12 rfl dX7_takesQuestion_11 ci_0 ?_
  obtain ⟨g12, hf⟩ := f_grd hf
  refine Go.iald 13 rfl dX7_takesQuestion_12 (isT_lt hk1) (isT_sh hk1) g12 ?_
  refine Go.if_eq 22 16 rfl dX7_takesQuestion_13 rfl (fun hc => ?_) (fun hc => ?_)
  · replace hf := f_if hf hc
    refine Go.iconst (0 : Int32) 23 rfl dX7_takesQuestion_22 ci_0 ?_
    exact Go.zrS rfl (Or.inl rfl) dX7_takesQuestion_23 hf
  · replace hf := f_el hf hc
    refine Go.iload_n 0 17 rfl dX7_takesQuestion_16 rfl ?_
    refine Go.bipush (7 : Int32) 19 rfl dX7_takesQuestion_17 cb_7 ?_
    refine Go.icmp_ne 24 22 rfl dX7_takesQuestion_19 rfl (fun hc => ?_) (fun hc => ?_)
    · replace hf := f_el hf hc
      refine Go.aload_n 1 25 rfl dX7_takesQuestion_24 rfl ?_
      refine Go.dup 26 rfl dX7_takesQuestion_25 rfl ?_
      refine Go.getI 29 rfl dX7_takesQuestion_26 fl_X7_86 rfl (isT_lt ha0) (isT_sh ha0) ?_
      refine Go.iconst (1 : Int32) 30 rfl dX7_takesQuestion_29 ci_1 ?_
      refine Go.iadd 31 rfl dX7_takesQuestion_30 ?_
      obtain ⟨S31, eS31, hf⟩ := f_nm hf
      refine Go.putI 34 rfl dX7_takesQuestion_31 fp_X7_86 rfl (isT_lt ha0) (isT_sh ha0) (fun h => by cases h) (Go.stt S31 eS31 ?_)
      refine Go.aload_n 1 35 rfl dX7_takesQuestion_34 rfl ?_
      obtain ⟨k35, qk35, hk35, hf⟩ := f_rfd hf
      refine Go.getR 38 rfl dX7_takesQuestion_35 fl_X7_39 rfl (isT_lt ha0) (isT_sh ha0) qk35 ?_
      refine Go.iconst (1 : Int32) 39 rfl dX7_takesQuestion_38 ci_1 ?_
      refine Go.dup2 40 rfl dX7_takesQuestion_39 rfl rfl ?_
      obtain ⟨g40, hf⟩ := f_grd hf
      refine Go.iald 41 rfl dX7_takesQuestion_40 (isT_lt hk35) (isT_sh hk35) g40 ?_
      refine Go.iconst (1 : Int32) 42 rfl dX7_takesQuestion_41 ci_1 ?_
      refine Go.iadd 43 rfl dX7_takesQuestion_42 ?_
      obtain ⟨g43, hf⟩ := f_grd hf
      obtain ⟨S43, eS43, hf⟩ := f_nm hf
      refine Go.iast 44 rfl dX7_takesQuestion_43 (isT_lt hk35) (isT_sh hk35) g43 (Go.stt S43 eS43 ?_)
      refine Go.aload_n 1 45 rfl dX7_takesQuestion_44 rfl ?_
      refine Go.iload_n 2 46 rfl dX7_takesQuestion_45 rfl ?_
      refine Go.bipush (31 : Int32) 48 rfl dX7_takesQuestion_46 cb_31 ?_
      refine Go.iload_n 0 49 rfl dX7_takesQuestion_48 rfl ?_
      refine Go.iadd 50 rfl dX7_takesQuestion_49 ?_
      refine Go.iconst (0 : Int32) 51 rfl dX7_takesQuestion_50 ci_0 ?_
      refine Go.iconst (5 : Int32) 52 rfl dX7_takesQuestion_51 ci_5 ?_
      obtain ⟨r52, S52, er52, hf⟩ := f_bn2 hf
      refine Go.cV 55 [.int a1, .int ((31 : Int32) + v6), .int (0 : Int32), .int (5 : Int32)] [] (C_X7_takes G l n S43 a0 a1 ((31 : Int32) + v6) (0 : Int32) (5 : Int32) r52 S52 ha0 er52) rfl dX7_takesQuestion_52 cv_X7_95 ha0 (by decide) (by decide) rfl (Nat.le_of_ble_eq_true rfl) ?_
      refine Go.if_eq 115 58 rfl dX7_takesQuestion_55 rfl (fun hc => ?_) (fun hc => ?_)
      · replace hf := f_if hf hc
        refine Go.iconst (0 : Int32) 116 rfl dX7_takesQuestion_115 ci_0 ?_
        exact Go.zrS rfl (Or.inl rfl) dX7_takesQuestion_116 hf
      · replace hf := f_el hf hc
        refine Go.aload_n 1 59 rfl dX7_takesQuestion_58 rfl ?_
        refine Go.iload_n 2 60 rfl dX7_takesQuestion_59 rfl ?_
        refine Go.bipush (38 : Int32) 62 rfl dX7_takesQuestion_60 cb_38 ?_
        refine Go.iload_n 0 63 rfl dX7_takesQuestion_62 rfl ?_
        refine Go.iadd 64 rfl dX7_takesQuestion_63 ?_
        refine Go.iconst (0 : Int32) 65 rfl dX7_takesQuestion_64 ci_0 ?_
        refine Go.bipush (9 : Int32) 67 rfl dX7_takesQuestion_65 cb_9 ?_
        obtain ⟨r67, S67, er67, hf⟩ := f_bn2 hf
        refine Go.cV 70 [.int a1, .int ((38 : Int32) + v6), .int (0 : Int32), .int (9 : Int32)] [] (C_X7_takes G l n S52 a0 a1 ((38 : Int32) + v6) (0 : Int32) (9 : Int32) r67 S67 ha0 er67) rfl dX7_takesQuestion_67 cv_X7_95 ha0 (by decide) (by decide) rfl (Nat.le_of_ble_eq_true rfl) ?_
        refine Go.if_eq 115 73 rfl dX7_takesQuestion_70 rfl (fun hc => ?_) (fun hc => ?_)
        · replace hf := f_if hf hc
          refine Go.iconst (0 : Int32) 116 rfl dX7_takesQuestion_115 ci_0 ?_
          exact Go.zrS rfl (Or.inl rfl) dX7_takesQuestion_116 hf
        · replace hf := f_el hf hc
          refine Go.aload_n 1 74 rfl dX7_takesQuestion_73 rfl ?_
          refine Go.iload_n 2 75 rfl dX7_takesQuestion_74 rfl ?_
          refine Go.bipush (45 : Int32) 77 rfl dX7_takesQuestion_75 cb_45 ?_
          refine Go.iload_n 0 78 rfl dX7_takesQuestion_77 rfl ?_
          refine Go.iadd 79 rfl dX7_takesQuestion_78 ?_
          refine Go.aload_n 1 80 rfl dX7_takesQuestion_79 rfl ?_
          obtain ⟨k80, qk80, hk80, hf⟩ := f_rfd hf
          refine Go.getR 83 rfl dX7_takesQuestion_80 fl_X7_39 rfl (isT_lt ha0) (isT_sh ha0) qk80 ?_
          refine Go.bipush (38 : Int32) 85 rfl dX7_takesQuestion_83 cb_38 ?_
          refine Go.iload_n 0 86 rfl dX7_takesQuestion_85 rfl ?_
          refine Go.iadd 87 rfl dX7_takesQuestion_86 ?_
          obtain ⟨g87, hf⟩ := f_grd hf
          refine Go.iald 88 rfl dX7_takesQuestion_87 (isT_lt hk80) (isT_sh hk80) g87 ?_
          refine Go.bipush (9 : Int32) 90 rfl dX7_takesQuestion_88 cb_9 ?_
          obtain ⟨r90, S90, er90, hf⟩ := f_bn2 hf
          refine Go.cV 93 [.int a1, .int ((45 : Int32) + v6), .int (S67.1 k80 ((38 : Int32) + v6).toNatClampNeg), .int (9 : Int32)] [] (C_X7_takes G l n S67 a0 a1 ((45 : Int32) + v6) (S67.1 k80 ((38 : Int32) + v6).toNatClampNeg) (9 : Int32) r90 S90 ha0 er90) rfl dX7_takesQuestion_90 cv_X7_95 ha0 (by decide) (by decide) rfl (Nat.le_of_ble_eq_true rfl) ?_
          refine Go.if_eq 115 96 rfl dX7_takesQuestion_93 rfl (fun hc => ?_) (fun hc => ?_)
          · replace hf := f_if hf hc
            refine Go.iconst (0 : Int32) 116 rfl dX7_takesQuestion_115 ci_0 ?_
            exact Go.zrS rfl (Or.inl rfl) dX7_takesQuestion_116 hf
          · replace hf := f_el hf hc
            refine Go.aload_n 1 97 rfl dX7_takesQuestion_96 rfl ?_
            refine Go.iload_n 2 98 rfl dX7_takesQuestion_97 rfl ?_
            refine Go.bipush (52 : Int32) 100 rfl dX7_takesQuestion_98 cb_52 ?_
            refine Go.iload_n 0 101 rfl dX7_takesQuestion_100 rfl ?_
            refine Go.iadd 102 rfl dX7_takesQuestion_101 ?_
            refine Go.iconst (1 : Int32) 103 rfl dX7_takesQuestion_102 ci_1 ?_
            refine Go.bipush (9 : Int32) 105 rfl dX7_takesQuestion_103 cb_9 ?_
            obtain ⟨r105, S105, er105, hf⟩ := f_bn2 hf
            refine Go.cV 108 [.int a1, .int ((52 : Int32) + v6), .int (1 : Int32), .int (9 : Int32)] [] (C_X7_takes G l n S90 a0 a1 ((52 : Int32) + v6) (1 : Int32) (9 : Int32) r105 S105 ha0 er105) rfl dX7_takesQuestion_105 cv_X7_95 ha0 (by decide) (by decide) rfl (Nat.le_of_ble_eq_true rfl) ?_
            refine Go.if_eq 115 111 rfl dX7_takesQuestion_108 rfl (fun hc => ?_) (fun hc => ?_)
            · replace hf := f_if hf hc
              refine Go.iconst (0 : Int32) 116 rfl dX7_takesQuestion_115 ci_0 ?_
              exact Go.zrS rfl (Or.inl rfl) dX7_takesQuestion_116 hf
            · replace hf := f_el hf hc
              refine Go.iconst (1 : Int32) 112 rfl dX7_takesQuestion_111 ci_1 ?_
              refine Go.goto 116 dX7_takesQuestion_112 rfl ?_
              exact Go.zrS rfl (Or.inr rfl) dX7_takesQuestion_116 hf
    · replace hf := f_if hf hc
      refine Go.iconst (0 : Int32) 23 rfl dX7_takesQuestion_22 ci_0 ?_
      exact Go.zrS rfl (Or.inl rfl) dX7_takesQuestion_23 hf
theorem dX7_reads_0 : decode cX7_reads 0 = .ok (.iconst 0, 1) := by decide +kernel
theorem dX7_reads_1 : decode cX7_reads 1 = .ok (.istore_n 2, 1) := by decide +kernel
theorem dX7_reads_2 : decode cX7_reads 2 = .ok (.iload_n 2, 1) := by decide +kernel
theorem dX7_reads_3 : decode cX7_reads 3 = .ok (.sipush 393, 3) := by decide +kernel
theorem dX7_reads_6 : decode cX7_reads 6 = .ok (.if_icmp .ge 35, 3) := by decide +kernel
theorem dX7_reads_9 : decode cX7_reads 9 = .ok (.aload_n 0, 1) := by decide +kernel
theorem dX7_reads_10 : decode cX7_reads 10 = .ok (.getfield 39, 3) := by decide +kernel
theorem dX7_reads_13 : decode cX7_reads 13 = .ok (.iload_n 2, 1) := by decide +kernel
theorem dX7_reads_14 : decode cX7_reads 14 = .ok (.iload_n 2, 1) := by decide +kernel
theorem dX7_reads_15 : decode cX7_reads 15 = .ok (.i2l, 1) := by decide +kernel
theorem dX7_reads_16 : decode cX7_reads 16 = .ok (.ldc2_w 99, 3) := by decide +kernel
theorem dX7_reads_19 : decode cX7_reads 19 = .ok (.ldc2_w 101, 3) := by decide +kernel
theorem dX7_reads_22 : decode cX7_reads 22 = .ok (.invokestatic 66, 3) := by decide +kernel
theorem dX7_reads_25 : decode cX7_reads 25 = .ok (.ifCond .eq 8, 3) := by decide +kernel
theorem dX7_reads_28 : decode cX7_reads 28 = .ok (.bipush (-9), 2) := by decide +kernel
theorem dX7_reads_30 : decode cX7_reads 30 = .ok (.goto 4, 3) := by decide +kernel
theorem dX7_reads_33 : decode cX7_reads 33 = .ok (.iconst 0, 1) := by decide +kernel
theorem dX7_reads_34 : decode cX7_reads 34 = .ok (.iastore, 1) := by decide +kernel
theorem dX7_reads_35 : decode cX7_reads 35 = .ok (.iinc 2 1, 3) := by decide +kernel
theorem dX7_reads_38 : decode cX7_reads 38 = .ok (.goto (-36), 3) := by decide +kernel
theorem dX7_reads_41 : decode cX7_reads 41 = .ok (.aload_n 0, 1) := by decide +kernel
theorem dX7_reads_42 : decode cX7_reads 42 = .ok (.iconst 0, 1) := by decide +kernel
theorem dX7_reads_43 : decode cX7_reads 43 = .ok (.putfield 86, 3) := by decide +kernel
theorem dX7_reads_46 : decode cX7_reads 46 = .ok (.aload_n 0, 1) := by decide +kernel
theorem dX7_reads_47 : decode cX7_reads 47 = .ok (.getfield 86, 3) := by decide +kernel
theorem dX7_reads_50 : decode cX7_reads 50 = .ok (.aload_n 0, 1) := by decide +kernel
theorem dX7_reads_51 : decode cX7_reads 51 = .ok (.getfield 16, 3) := by decide +kernel
theorem dX7_reads_54 : decode cX7_reads 54 = .ok (.iload_n 1, 1) := by decide +kernel
theorem dX7_reads_55 : decode cX7_reads 55 = .ok (.iaload, 1) := by decide +kernel
theorem dX7_reads_56 : decode cX7_reads 56 = .ok (.if_icmp .ge 60, 3) := by decide +kernel
theorem dX7_reads_59 : decode cX7_reads 59 = .ok (.aload_n 0, 1) := by decide +kernel
theorem dX7_reads_60 : decode cX7_reads 60 = .ok (.iload_n 1, 1) := by decide +kernel
theorem dX7_reads_61 : decode cX7_reads 61 = .ok (.invokevirtual 89, 3) := by decide +kernel
theorem dX7_reads_64 : decode cX7_reads 64 = .ok (.bipush 32, 2) := by decide +kernel
theorem dX7_reads_66 : decode cX7_reads 66 = .ok (.if_icmp .ne 16, 3) := by decide +kernel
theorem dX7_reads_69 : decode cX7_reads 69 = .ok (.aload_n 0, 1) := by decide +kernel
theorem dX7_reads_70 : decode cX7_reads 70 = .ok (.dup, 1) := by decide +kernel
theorem dX7_reads_71 : decode cX7_reads 71 = .ok (.getfield 86, 3) := by decide +kernel
theorem dX7_reads_74 : decode cX7_reads 74 = .ok (.iconst 1, 1) := by decide +kernel
theorem dX7_reads_75 : decode cX7_reads 75 = .ok (.iadd, 1) := by decide +kernel
theorem dX7_reads_76 : decode cX7_reads 76 = .ok (.putfield 86, 3) := by decide +kernel
theorem dX7_reads_79 : decode cX7_reads 79 = .ok (.goto (-33), 3) := by decide +kernel
theorem dX7_reads_82 : decode cX7_reads 82 = .ok (.aload_n 0, 1) := by decide +kernel
theorem dX7_reads_83 : decode cX7_reads 83 = .ok (.iload_n 1, 1) := by decide +kernel
theorem dX7_reads_84 : decode cX7_reads 84 = .ok (.invokevirtual 89, 3) := by decide +kernel
theorem dX7_reads_87 : decode cX7_reads 87 = .ok (.bipush 113, 2) := by decide +kernel
theorem dX7_reads_89 : decode cX7_reads 89 = .ok (.if_icmp .ne 14, 3) := by decide +kernel
theorem dX7_reads_92 : decode cX7_reads 92 = .ok (.aload_n 0, 1) := by decide +kernel
theorem dX7_reads_93 : decode cX7_reads 93 = .ok (.iload_n 1, 1) := by decide +kernel
theorem dX7_reads_94 : decode cX7_reads 94 = .ok (.invokevirtual 103, 3) := by decide +kernel
theorem dX7_reads_97 : decode cX7_reads 97 = .ok (.ifCond .eq 14, 3) := by decide +kernel
theorem dX7_reads_100 : decode cX7_reads 100 = .ok (.goto (-54), 3) := by decide +kernel
theorem dX7_reads_103 : decode cX7_reads 103 = .ok (.aload_n 0, 1) := by decide +kernel
theorem dX7_reads_104 : decode cX7_reads 104 = .ok (.iload_n 1, 1) := by decide +kernel
theorem dX7_reads_105 : decode cX7_reads 105 = .ok (.invokevirtual 106, 3) := by decide +kernel
theorem dX7_reads_108 : decode cX7_reads 108 = .ok (.ifCond .ne (-62), 3) := by decide +kernel
theorem dX7_reads_111 : decode cX7_reads 111 = .ok (.aload_n 0, 1) := by decide +kernel
theorem dX7_reads_112 : decode cX7_reads 112 = .ok (.getfield 86, 3) := by decide +kernel
theorem dX7_reads_115 : decode cX7_reads 115 = .ok (.ireturn, 1) := by decide +kernel
theorem dX7_reads_116 : decode cX7_reads 116 = .ok (.aload_n 0, 1) := by decide +kernel
theorem dX7_reads_117 : decode cX7_reads 117 = .ok (.getfield 39, 3) := by decide +kernel
theorem dX7_reads_120 : decode cX7_reads 120 = .ok (.iconst 0, 1) := by decide +kernel
theorem dX7_reads_121 : decode cX7_reads 121 = .ok (.iaload, 1) := by decide +kernel
theorem dX7_reads_122 : decode cX7_reads 122 = .ok (.ifCond .ne 10, 3) := by decide +kernel
theorem dX7_reads_125 : decode cX7_reads 125 = .ok (.aload_n 0, 1) := by decide +kernel
theorem dX7_reads_126 : decode cX7_reads 126 = .ok (.getfield 86, 3) := by decide +kernel
theorem dX7_reads_129 : decode cX7_reads 129 = .ok (.goto 5, 3) := by decide +kernel
theorem dX7_reads_132 : decode cX7_reads 132 = .ok (.bipush (-9), 2) := by decide +kernel
theorem dX7_reads_134 : decode cX7_reads 134 = .ok (.ireturn, 1) := by decide +kernel
def F_X7_reads_L46 (n : Nat) (a0 : Nat) (a1 : Int32) (K116 : aSt → Option (Int32 × aSt)) (K111 : aSt → Option (Int32 × aSt)) : Nat → aSt → Option (Int32 × aSt)
  | 0, _ => none
  | fu + 1, l46S =>
    rfd (l46S.2.2 a0 2) 7 fun k51 =>
    grd (inb a1 (SH k51).2) <|
    if (l46S.1 k51 a1.toNatClampNeg) ≤ (l46S.1 a0 13) then (K116 l46S) else
    (F_X7_byteAt n l46S a0 a1).bind fun r61 =>
    if r61 = (32 : Int32) then (nm (stI l46S a0 13 ((l46S.1 a0 13) + (1 : Int32))) fun S76 =>
    F_X7_reads_L46 n a0 a1 K116 K111 fu S76) else
    (F_X7_byteAt n l46S a0 a1).bind fun r84 =>
    if r84 = (113 : Int32) then (bn2 (F_X7_takesQuestion n l46S a0 a1) fun r94 S94 =>
    if r94 = 0 then (K111 S94) else
    F_X7_reads_L46 n a0 a1 K116 K111 fu S94) else
    bn2 (F_X7_takesCard n l46S a0 a1) fun r105 S105 =>
    if r105 = 0 then (K111 S105) else
    F_X7_reads_L46 n a0 a1 K116 K111 fu S105
def F_X7_reads_L2 (n : Nat) (a0 : Nat) (K41 : aSt → Option (Int32 × aSt)) : Nat → Int32 → aSt → Option (Int32 × aSt)
  | 0, _, _ => none
  | fu + 1, l2_2, l2S =>
    if (393 : Int32) ≤ l2_2 then (K41 l2S) else
    rfd (l2S.2.2 a0 12) 7 fun k10 =>
    (F_X7_in n l2S l2_2.toInt64 (59 : Int64) (72 : Int64)).bind fun r22 =>
    jn (fun (j34s2 : Int32) => (grd (inb l2_2 (SH k10).2) <|
    nm (stI l2S k10 l2_2.toNatClampNeg j34s2) fun S34 =>
    F_X7_reads_L2 n a0 K41 fu (l2_2 + (1 : Int32)) S34 : Option (Int32 × aSt))) fun K34 =>
    if r22 = 0 then (K34 (0 : Int32)) else
    K34 (-9 : Int32)
def F_X7_reads (n : Nat) (S : aSt) (a0 : Nat) (a1 : Int32) : Option (Int32 × aSt) :=
jn (fun (x41S : aSt) => (nm (stI x41S a0 13 (0 : Int32)) fun S43 =>
jn (fun (x116S : aSt) => (rfd (x116S.2.2 a0 12) 7 fun k117 =>
grd (inb (0 : Int32) (SH k117).2) <|
if (x116S.1 k117 (0 : Int32).toNatClampNeg) = 0 then (some ((x116S.1 a0 13), x116S)) else
some ((-9 : Int32), x116S) : Option (Int32 × aSt))) fun K116 =>
jn (fun (x111S : aSt) => (some ((x111S.1 a0 13), x111S) : Option (Int32 × aSt))) fun K111 =>
F_X7_reads_L46 n a0 a1 K116 K111 n S43 : Option (Int32 × aSt))) fun K41 =>
F_X7_reads_L2 n a0 K41 n (0 : Int32) S
set_option maxHeartbeats 4000000 in
set_option maxRecDepth 100000 in
theorem C_X7_reads (G : aG) (l : Launch) (n : Nat) (S : aSt) (a0 : Nat) (a1 : Int32) (r : Int32) (Sr : aSt) (ha0 : isT a0 6 = true) (hf : F_X7_reads n S a0 a1 = some (r, Sr)) : Ctr G l yX7_reads mX7_reads (rmM 4) 97 97 S [.ref a0, .int a1] (some (.int r)) Sr := by
  refine Ctr.of (by decide) rfl rfl (Nat.le_of_ble_eq_true rfl) [(0, .ref a0), (1, .int a1)] rfl ?_
  unfold F_X7_reads at hf
  refine Go.iconst (0 : Int32) 1 rfl dX7_reads_0 ci_0 ?_
  refine Go.istore_n 2 [(2, .int (0 : Int32)), (0, .ref a0), (1, .int a1)] rfl dX7_reads_1 (by decide) rfl ?_
  obtain ⟨K41, eK41, hf⟩ := f_jn hf
  have J41 : ∀ (x41S : aSt), K41 x41S = some (r, Sr) → GoM G l 4 (TmR G (some (.int r)) 97 Sr 0 0) mX7_reads 41 [(0, .ref a0), (1, .int a1)] [] x41S := by
    intro x41S hf
    rw [eK41] at hf
    refine Go.aload_n 0 42 rfl dX7_reads_41 rfl ?_
    refine Go.iconst (0 : Int32) 43 rfl dX7_reads_42 ci_0 ?_
    obtain ⟨S43, eS43, hf⟩ := f_nm hf
    refine Go.putI 46 rfl dX7_reads_43 fp_X7_86 rfl (isT_lt ha0) (isT_sh ha0) (fun h => by cases h) (Go.stt S43 eS43 ?_)
    obtain ⟨K116, eK116, hf⟩ := f_jn hf
    have J116 : ∀ (x116S : aSt), K116 x116S = some (r, Sr) → GoM G l 4 (TmR G (some (.int r)) 97 Sr 0 0) mX7_reads 116 [(0, .ref a0)] [] x116S := by
      intro x116S hf
      rw [eK116] at hf
      refine Go.aload_n 0 117 rfl dX7_reads_116 rfl ?_
      obtain ⟨k117, qk117, hk117, hf⟩ := f_rfd hf
      refine Go.getR 120 rfl dX7_reads_117 fl_X7_39 rfl (isT_lt ha0) (isT_sh ha0) qk117 ?_
      refine Go.iconst (0 : Int32) 121 rfl dX7_reads_120 ci_0 ?_
      obtain ⟨g121, hf⟩ := f_grd hf
      refine Go.iald 122 rfl dX7_reads_121 (isT_lt hk117) (isT_sh hk117) g121 ?_
      refine Go.if_ne 132 125 rfl dX7_reads_122 rfl (fun hc => ?_) (fun hc => ?_)
      · replace hf := f_el hf hc
        refine Go.bipush (-9 : Int32) 134 rfl dX7_reads_132 cb_m9 ?_
        exact Go.irS rfl dX7_reads_134 hf
      · replace hf := f_if hf hc
        refine Go.aload_n 0 126 rfl dX7_reads_125 rfl ?_
        refine Go.getI 129 rfl dX7_reads_126 fl_X7_86 rfl (isT_lt ha0) (isT_sh ha0) ?_
        refine Go.goto 134 dX7_reads_129 rfl ?_
        exact Go.irS rfl dX7_reads_134 hf
    clear eK116
    obtain ⟨K111, eK111, hf⟩ := f_jn hf
    have J111 : ∀ (x111S : aSt), K111 x111S = some (r, Sr) → GoM G l 4 (TmR G (some (.int r)) 97 Sr 0 0) mX7_reads 111 [(0, .ref a0)] [] x111S := by
      intro x111S hf
      rw [eK111] at hf
      refine Go.aload_n 0 112 rfl dX7_reads_111 rfl ?_
      refine Go.getI 115 rfl dX7_reads_112 fl_X7_86 rfl (isT_lt ha0) (isT_sh ha0) ?_
      exact Go.irS rfl dX7_reads_115 hf
    clear eK111
    have L46 : ∀ (fu : Nat) (l46S : aSt), F_X7_reads_L46 n a0 a1 K116 K111 fu l46S = some (r, Sr) → GoM G l 4 (TmR G (some (.int r)) 97 Sr 0 0) mX7_reads 46 [(0, .ref a0), (1, .int a1)] [] l46S := by
      intro fu
      induction fu with
      | zero => intro l46S hf; rw [F_X7_reads_L46] at hf; cases hf
      | succ fu ih =>
        intro l46S hf
        rw [F_X7_reads_L46] at hf
        refine Go.aload_n 0 47 rfl dX7_reads_46 rfl ?_
        refine Go.getI 50 rfl dX7_reads_47 fl_X7_86 rfl (isT_lt ha0) (isT_sh ha0) ?_
        refine Go.aload_n 0 51 rfl dX7_reads_50 rfl ?_
        obtain ⟨k51, qk51, hk51, hf⟩ := f_rfd hf
        refine Go.getR 54 rfl dX7_reads_51 fl_X7_16 rfl (isT_lt ha0) (isT_sh ha0) qk51 ?_
        refine Go.iload_n 1 55 rfl dX7_reads_54 rfl ?_
        obtain ⟨g55, hf⟩ := f_grd hf
        refine Go.iald 56 rfl dX7_reads_55 (isT_lt hk51) (isT_sh hk51) g55 ?_
        refine Go.icmp_ge 116 59 rfl dX7_reads_56 rfl (fun hc => ?_) (fun hc => ?_)
        · replace hf := f_if hf hc
          exact Go.sub [0] [(0, .ref a0)] rfl (J116 l46S hf)
        · replace hf := f_el hf hc
          refine Go.aload_n 0 60 rfl dX7_reads_59 rfl ?_
          refine Go.iload_n 1 61 rfl dX7_reads_60 rfl ?_
          obtain ⟨r61, er61, hf⟩ := f_bnd hf
          refine Go.cV 64 [.int a1] [] (C_X7_byteAt G l n l46S a0 a1 r61 ha0 er61) rfl dX7_reads_61 cv_X7_89 ha0 (by decide) (by decide) rfl (Nat.le_of_ble_eq_true rfl) ?_
          refine Go.bipush (32 : Int32) 66 rfl dX7_reads_64 cb_32 ?_
          refine Go.icmp_ne 82 69 rfl dX7_reads_66 rfl (fun hc => ?_) (fun hc => ?_)
          · replace hf := f_el hf hc
            refine Go.aload_n 0 83 rfl dX7_reads_82 rfl ?_
            refine Go.iload_n 1 84 rfl dX7_reads_83 rfl ?_
            obtain ⟨r84, er84, hf⟩ := f_bnd hf
            refine Go.cV 87 [.int a1] [] (C_X7_byteAt G l n l46S a0 a1 r84 ha0 er84) rfl dX7_reads_84 cv_X7_89 ha0 (by decide) (by decide) rfl (Nat.le_of_ble_eq_true rfl) ?_
            refine Go.bipush (113 : Int32) 89 rfl dX7_reads_87 cb_113 ?_
            refine Go.icmp_ne 103 92 rfl dX7_reads_89 rfl (fun hc => ?_) (fun hc => ?_)
            · replace hf := f_el hf hc
              refine Go.aload_n 0 104 rfl dX7_reads_103 rfl ?_
              refine Go.iload_n 1 105 rfl dX7_reads_104 rfl ?_
              obtain ⟨r105, S105, er105, hf⟩ := f_bn2 hf
              refine Go.cV 108 [.int a1] [] (C_X7_takesCard G l n l46S a0 a1 r105 S105 ha0 er105) rfl dX7_reads_105 cv_X7_106 ha0 (by decide) (by decide) rfl (Nat.le_of_ble_eq_true rfl) ?_
              refine Go.if_ne 46 111 rfl dX7_reads_108 rfl (fun hc => ?_) (fun hc => ?_)
              · replace hf := f_el hf hc
                exact ih S105 hf
              · replace hf := f_if hf hc
                exact Go.sub [0] [(0, .ref a0)] rfl (J111 S105 hf)
            · replace hf := f_if hf hc
              refine Go.aload_n 0 93 rfl dX7_reads_92 rfl ?_
              refine Go.iload_n 1 94 rfl dX7_reads_93 rfl ?_
              obtain ⟨r94, S94, er94, hf⟩ := f_bn2 hf
              refine Go.cV 97 [.int a1] [] (C_X7_takesQuestion G l n l46S a0 a1 r94 S94 ha0 er94) rfl dX7_reads_94 cv_X7_103 ha0 (by decide) (by decide) rfl (Nat.le_of_ble_eq_true rfl) ?_
              refine Go.if_eq 111 100 rfl dX7_reads_97 rfl (fun hc => ?_) (fun hc => ?_)
              · replace hf := f_if hf hc
                exact Go.sub [0] [(0, .ref a0)] rfl (J111 S94 hf)
              · replace hf := f_el hf hc
                refine Go.goto 46 dX7_reads_100 rfl ?_
                exact ih S94 hf
          · replace hf := f_if hf hc
            refine Go.aload_n 0 70 rfl dX7_reads_69 rfl ?_
            refine Go.dup 71 rfl dX7_reads_70 rfl ?_
            refine Go.getI 74 rfl dX7_reads_71 fl_X7_86 rfl (isT_lt ha0) (isT_sh ha0) ?_
            refine Go.iconst (1 : Int32) 75 rfl dX7_reads_74 ci_1 ?_
            refine Go.iadd 76 rfl dX7_reads_75 ?_
            obtain ⟨S76, eS76, hf⟩ := f_nm hf
            refine Go.putI 79 rfl dX7_reads_76 fp_X7_86 rfl (isT_lt ha0) (isT_sh ha0) (fun h => by cases h) (Go.stt S76 eS76 ?_)
            refine Go.goto 46 dX7_reads_79 rfl ?_
            exact ih S76 hf
    exact L46 n S43 hf
  clear eK41
  have L2 : ∀ (fu : Nat) (l2_2 : Int32) (l2S : aSt), F_X7_reads_L2 n a0 K41 fu l2_2 l2S = some (r, Sr) → GoM G l 4 (TmR G (some (.int r)) 97 Sr 0 0) mX7_reads 2 [(0, .ref a0), (1, .int a1), (2, .int l2_2)] [] l2S := by
    intro fu
    induction fu with
    | zero => intro l2_2 l2S hf; rw [F_X7_reads_L2] at hf; cases hf
    | succ fu ih =>
      intro l2_2 l2S hf
      rw [F_X7_reads_L2] at hf
      refine Go.iload_n 2 3 rfl dX7_reads_2 rfl ?_
      refine Go.sipush (393 : Int32) 6 rfl dX7_reads_3 cs_393 ?_
      refine Go.icmp_ge 41 9 rfl dX7_reads_6 rfl (fun hc => ?_) (fun hc => ?_)
      · replace hf := f_if hf hc
        exact Go.sub [0, 1] [(0, .ref a0), (1, .int a1)] rfl (J41 l2S hf)
      · replace hf := f_el hf hc
        refine Go.aload_n 0 10 rfl dX7_reads_9 rfl ?_
        obtain ⟨k10, qk10, hk10, hf⟩ := f_rfd hf
        refine Go.getR 13 rfl dX7_reads_10 fl_X7_39 rfl (isT_lt ha0) (isT_sh ha0) qk10 ?_
        refine Go.iload_n 2 14 rfl dX7_reads_13 rfl ?_
        refine Go.iload_n 2 15 rfl dX7_reads_14 rfl ?_
        refine Go.i2l 16 rfl dX7_reads_15 ?_
        refine Go.ldc2 (59 : Int64) 19 rfl dX7_reads_16 (am_mem 962 (by decide +kernel) rfl) ?_
        refine Go.ldc2 (72 : Int64) 22 rfl dX7_reads_19 (am_mem 963 (by decide +kernel) rfl) ?_
        obtain ⟨r22, er22, hf⟩ := f_bnd hf
        refine Go.cS 25 [.long l2_2.toInt64, .long (59 : Int64), .long (72 : Int64)] [.int l2_2, .ref k10] (C_X7_in G l n l2S l2_2.toInt64 (59 : Int64) (72 : Int64) r22  er22) rfl dX7_reads_22 cx_X7_66 (by decide) (by decide) rfl (Nat.le_of_ble_eq_true rfl) ?_
        obtain ⟨K34, eK34, hf⟩ := f_jn hf
        have J34 : ∀ (j34s2 : Int32), K34 j34s2 = some (r, Sr) → GoM G l 4 (TmR G (some (.int r)) 97 Sr 0 0) mX7_reads 34 [(0, .ref a0), (1, .int a1), (2, .int l2_2)] [.int j34s2, .int l2_2, .ref k10] l2S := by
          intro j34s2 hf
          rw [eK34] at hf
          obtain ⟨g34, hf⟩ := f_grd hf
          obtain ⟨S34, eS34, hf⟩ := f_nm hf
          refine Go.iast 35 rfl dX7_reads_34 (isT_lt hk10) (isT_sh hk10) g34 (Go.stt S34 eS34 ?_)
          refine Go.inc 2 38 (1 : Int32) [(2, .int (l2_2 + (1 : Int32))), (0, .ref a0), (1, .int a1)] rfl dX7_reads_35 rfl ci_1 (by decide) rfl ?_
          refine Go.goto 2 dX7_reads_38 rfl ?_
          exact Go.sub [1, 2, 0] [(0, .ref a0), (1, .int a1), (2, .int (l2_2 + (1 : Int32)))] rfl (ih (l2_2 + (1 : Int32)) S34 hf)
        clear eK34
        refine Go.if_eq 33 28 rfl dX7_reads_25 rfl (fun hc => ?_) (fun hc => ?_)
        · replace hf := f_if hf hc
          refine Go.iconst (0 : Int32) 34 rfl dX7_reads_33 ci_0 ?_
          exact J34 (0 : Int32) hf
        · replace hf := f_el hf hc
          refine Go.bipush (-9 : Int32) 30 rfl dX7_reads_28 cb_m9 ?_
          refine Go.goto 34 dX7_reads_30 rfl ?_
          exact J34 (-9 : Int32) hf
  exact Go.sub [1, 2, 0] [(0, .ref a0), (1, .int a1), (2, .int (0 : Int32))] rfl (L2 n (0 : Int32) S hf)
theorem dX7_fault_0 : decode cX7_fault 0 = .ok (.iload_n 1, 1) := by decide +kernel
theorem dX7_fault_1 : decode cX7_fault 1 = .ok (.invokestatic 83, 3) := by decide +kernel
theorem dX7_fault_4 : decode cX7_fault 4 = .ok (.ifCond .ne 5, 3) := by decide +kernel
theorem dX7_fault_7 : decode cX7_fault 7 = .ok (.iconst (-1), 1) := by decide +kernel
theorem dX7_fault_8 : decode cX7_fault 8 = .ok (.ireturn, 1) := by decide +kernel
theorem dX7_fault_9 : decode cX7_fault 9 = .ok (.aload_n 0, 1) := by decide +kernel
theorem dX7_fault_10 : decode cX7_fault 10 = .ok (.getfield 16, 3) := by decide +kernel
theorem dX7_fault_13 : decode cX7_fault 13 = .ok (.iload_n 1, 1) := by decide +kernel
theorem dX7_fault_14 : decode cX7_fault 14 = .ok (.iaload, 1) := by decide +kernel
theorem dX7_fault_15 : decode cX7_fault 15 = .ok (.ifCond .ge 11, 3) := by decide +kernel
theorem dX7_fault_18 : decode cX7_fault 18 = .ok (.aload_n 0, 1) := by decide +kernel
theorem dX7_fault_19 : decode cX7_fault 19 = .ok (.iconst 1, 1) := by decide +kernel
theorem dX7_fault_20 : decode cX7_fault 20 = .ok (.invokevirtual 76, 3) := by decide +kernel
theorem dX7_fault_23 : decode cX7_fault 23 = .ok (.goto 8, 3) := by decide +kernel
theorem dX7_fault_26 : decode cX7_fault 26 = .ok (.aload_n 0, 1) := by decide +kernel
theorem dX7_fault_27 : decode cX7_fault 27 = .ok (.iload_n 1, 1) := by decide +kernel
theorem dX7_fault_28 : decode cX7_fault 28 = .ok (.invokevirtual 109, 3) := by decide +kernel
theorem dX7_fault_31 : decode cX7_fault 31 = .ok (.ireturn, 1) := by decide +kernel
def F_X7_fault (n : Nat) (S : aSt) (a0 : Nat) (a1 : Int32) : Option (Int32 × aSt) :=
(F_X7_isText n S a1).bind fun r1 =>
if r1 = 0 then (some ((-1 : Int32), S)) else
rfd (S.2.2 a0 2) 7 fun k10 =>
grd (inb a1 (SH k10).2) <|
if 0 ≤ (S.1 k10 a1.toNatClampNeg) then (bn2 (F_X7_reads n S a0 a1) fun r28 S28 =>
some (r28, S28)) else
bn2 (F_X7_found n S a0 (1 : Int32)) fun r20 S20 =>
some (r20, S20)
set_option maxHeartbeats 4000000 in
set_option maxRecDepth 100000 in
theorem C_X7_fault (G : aG) (l : Launch) (n : Nat) (S : aSt) (a0 : Nat) (a1 : Int32) (r : Int32) (Sr : aSt) (ha0 : isT a0 6 = true) (hf : F_X7_fault n S a0 a1 = some (r, Sr)) : Ctr G l yX7_fault mX7_fault (rmM 5) 97 97 S [.ref a0, .int a1] (some (.int r)) Sr := by
  refine Ctr.of (by decide) rfl rfl (Nat.le_of_ble_eq_true rfl) [(0, .ref a0), (1, .int a1)] rfl ?_
  unfold F_X7_fault at hf
  refine Go.iload_n 1 1 rfl dX7_fault_0 rfl ?_
  obtain ⟨r1, er1, hf⟩ := f_bnd hf
  refine Go.cS 4 [.int a1] [] (C_X7_isText G l n S a1 r1  er1) rfl dX7_fault_1 cx_X7_83 (by decide) (by decide) rfl (Nat.le_of_ble_eq_true rfl) ?_
  refine Go.if_ne 9 7 rfl dX7_fault_4 rfl (fun hc => ?_) (fun hc => ?_)
  · replace hf := f_el hf hc
    refine Go.aload_n 0 10 rfl dX7_fault_9 rfl ?_
    obtain ⟨k10, qk10, hk10, hf⟩ := f_rfd hf
    refine Go.getR 13 rfl dX7_fault_10 fl_X7_16 rfl (isT_lt ha0) (isT_sh ha0) qk10 ?_
    refine Go.iload_n 1 14 rfl dX7_fault_13 rfl ?_
    obtain ⟨g14, hf⟩ := f_grd hf
    refine Go.iald 15 rfl dX7_fault_14 (isT_lt hk10) (isT_sh hk10) g14 ?_
    refine Go.if_ge 26 18 rfl dX7_fault_15 rfl (fun hc => ?_) (fun hc => ?_)
    · replace hf := f_if hf hc
      refine Go.aload_n 0 27 rfl dX7_fault_26 rfl ?_
      refine Go.iload_n 1 28 rfl dX7_fault_27 rfl ?_
      obtain ⟨r28, S28, er28, hf⟩ := f_bn2 hf
      refine Go.cV 31 [.int a1] [] (C_X7_reads G l n S a0 a1 r28 S28 ha0 er28) rfl dX7_fault_28 cv_X7_109 ha0 (by decide) (by decide) rfl (Nat.le_of_ble_eq_true rfl) ?_
      exact Go.irS rfl dX7_fault_31 hf
    · replace hf := f_el hf hc
      refine Go.aload_n 0 19 rfl dX7_fault_18 rfl ?_
      refine Go.iconst (1 : Int32) 20 rfl dX7_fault_19 ci_1 ?_
      obtain ⟨r20, S20, er20, hf⟩ := f_bn2 hf
      refine Go.cV 23 [.int (1 : Int32)] [] (C_X7_found G l n S a0 (1 : Int32) r20 S20 ha0 er20) rfl dX7_fault_20 cv_X7_76 ha0 (by decide) (by decide) rfl (Nat.le_of_ble_eq_true rfl) ?_
      refine Go.goto 31 dX7_fault_23 rfl ?_
      exact Go.irS rfl dX7_fault_31 hf
  · replace hf := f_if hf hc
    refine Go.iconst (-1 : Int32) 8 rfl dX7_fault_7 ci_m1 ?_
    exact Go.irS rfl dX7_fault_8 hf
theorem dX7_copies_0 : decode cX7_copies 0 = .ok (.iconst 0, 1) := by decide +kernel
theorem dX7_copies_1 : decode cX7_copies 1 = .ok (.istore 4, 2) := by decide +kernel
theorem dX7_copies_3 : decode cX7_copies 3 = .ok (.iload 4, 2) := by decide +kernel
theorem dX7_copies_5 : decode cX7_copies 5 = .ok (.sipush 393, 3) := by decide +kernel
theorem dX7_copies_8 : decode cX7_copies 8 = .ok (.if_icmp .ge 21, 3) := by decide +kernel
theorem dX7_copies_11 : decode cX7_copies 11 = .ok (.aload_n 2, 1) := by decide +kernel
theorem dX7_copies_12 : decode cX7_copies 12 = .ok (.iload_n 3, 1) := by decide +kernel
theorem dX7_copies_13 : decode cX7_copies 13 = .ok (.iload 4, 2) := by decide +kernel
theorem dX7_copies_15 : decode cX7_copies 15 = .ok (.iadd, 1) := by decide +kernel
theorem dX7_copies_16 : decode cX7_copies 16 = .ok (.aload_n 0, 1) := by decide +kernel
theorem dX7_copies_17 : decode cX7_copies 17 = .ok (.iload_n 1, 1) := by decide +kernel
theorem dX7_copies_18 : decode cX7_copies 18 = .ok (.iload 4, 2) := by decide +kernel
theorem dX7_copies_20 : decode cX7_copies 20 = .ok (.iadd, 1) := by decide +kernel
theorem dX7_copies_21 : decode cX7_copies 21 = .ok (.iaload, 1) := by decide +kernel
theorem dX7_copies_22 : decode cX7_copies 22 = .ok (.iastore, 1) := by decide +kernel
theorem dX7_copies_23 : decode cX7_copies 23 = .ok (.iinc 4 1, 3) := by decide +kernel
theorem dX7_copies_26 : decode cX7_copies 26 = .ok (.goto (-23), 3) := by decide +kernel
theorem dX7_copies_29 : decode cX7_copies 29 = .ok (.return_, 1) := by decide +kernel
def F_X7_copies_L3 (a0 : Nat) (a1 : Int32) (a2 : Nat) (a3 : Int32) (K29 : aSt → Option aSt) : Nat → Int32 → aSt → Option aSt
  | 0, _, _ => none
  | fu + 1, l3_4, l3S =>
    if (393 : Int32) ≤ l3_4 then (K29 l3S) else
    grd (inb (a1 + l3_4) (SH a0).2) <|
    grd (inb (a3 + l3_4) (SH a2).2) <|
    nm (stI l3S a2 (a3 + l3_4).toNatClampNeg (l3S.1 a0 (a1 + l3_4).toNatClampNeg)) fun S22 =>
    F_X7_copies_L3 a0 a1 a2 a3 K29 fu (l3_4 + (1 : Int32)) S22
def F_X7_copies (n : Nat) (S : aSt) (a0 : Nat) (a1 : Int32) (a2 : Nat) (a3 : Int32) : Option aSt :=
jn (fun (x29S : aSt) => (some x29S : Option aSt)) fun K29 =>
F_X7_copies_L3 a0 a1 a2 a3 K29 n (0 : Int32) S
set_option maxHeartbeats 4000000 in
set_option maxRecDepth 100000 in
theorem C_X7_copies (G : aG) (l : Launch) (n : Nat) (S : aSt) (a0 : Nat) (a1 : Int32) (a2 : Nat) (a3 : Int32) (Sr : aSt) (ha0 : isT a0 7 = true) (ha2 : isT a2 7 = true) (hf : F_X7_copies n S a0 a1 a2 a3 = some Sr) : Ctr G l yX7_copies mX7_copies (rmM 1) 97 97 S [.ref a0, .int a1, .ref a2, .int a3] none Sr := by
  refine Ctr.of (by decide) rfl rfl (Nat.le_of_ble_eq_true rfl) [(0, .ref a0), (1, .int a1), (2, .ref a2), (3, .int a3)] rfl ?_
  unfold F_X7_copies at hf
  refine Go.iconst (0 : Int32) 1 rfl dX7_copies_0 ci_0 ?_
  refine Go.istore 3 [(4, .int (0 : Int32)), (0, .ref a0), (1, .int a1), (2, .ref a2), (3, .int a3)] rfl dX7_copies_1 (by decide) rfl ?_
  obtain ⟨K29, eK29, hf⟩ := f_jn hf
  have J29 : ∀ (x29S : aSt), K29 x29S = some Sr → GoM G l 1 (TmR G none 97 Sr 0 0) mX7_copies 29 [] [] x29S := by
    intro x29S hf
    rw [eK29] at hf
    exact Go.vr rfl dX7_copies_29 hf
  clear eK29
  have L3 : ∀ (fu : Nat) (l3_4 : Int32) (l3S : aSt), F_X7_copies_L3 a0 a1 a2 a3 K29 fu l3_4 l3S = some Sr → GoM G l 1 (TmR G none 97 Sr 0 0) mX7_copies 3 [(0, .ref a0), (1, .int a1), (2, .ref a2), (3, .int a3), (4, .int l3_4)] [] l3S := by
    intro fu
    induction fu with
    | zero => intro l3_4 l3S hf; rw [F_X7_copies_L3] at hf; cases hf
    | succ fu ih =>
      intro l3_4 l3S hf
      rw [F_X7_copies_L3] at hf
      refine Go.iload 4 5 rfl dX7_copies_3 rfl ?_
      refine Go.sipush (393 : Int32) 8 rfl dX7_copies_5 cs_393 ?_
      refine Go.icmp_ge 29 11 rfl dX7_copies_8 rfl (fun hc => ?_) (fun hc => ?_)
      · replace hf := f_if hf hc
        exact Go.sub [] [] rfl (J29 l3S hf)
      · replace hf := f_el hf hc
        refine Go.aload_n 2 12 rfl dX7_copies_11 rfl ?_
        refine Go.iload_n 3 13 rfl dX7_copies_12 rfl ?_
        refine Go.iload 4 15 rfl dX7_copies_13 rfl ?_
        refine Go.iadd 16 rfl dX7_copies_15 ?_
        refine Go.aload_n 0 17 rfl dX7_copies_16 rfl ?_
        refine Go.iload_n 1 18 rfl dX7_copies_17 rfl ?_
        refine Go.iload 4 20 rfl dX7_copies_18 rfl ?_
        refine Go.iadd 21 rfl dX7_copies_20 ?_
        obtain ⟨g21, hf⟩ := f_grd hf
        refine Go.iald 22 rfl dX7_copies_21 (isT_lt ha0) (isT_sh ha0) g21 ?_
        obtain ⟨g22, hf⟩ := f_grd hf
        obtain ⟨S22, eS22, hf⟩ := f_nm hf
        refine Go.iast 23 rfl dX7_copies_22 (isT_lt ha2) (isT_sh ha2) g22 (Go.stt S22 eS22 ?_)
        refine Go.inc 4 26 (1 : Int32) [(4, .int (l3_4 + (1 : Int32))), (0, .ref a0), (1, .int a1), (2, .ref a2), (3, .int a3)] rfl dX7_copies_23 rfl ci_1 (by decide) rfl ?_
        refine Go.goto 3 dX7_copies_26 rfl ?_
        exact Go.sub [1, 2, 3, 4, 0] [(0, .ref a0), (1, .int a1), (2, .ref a2), (3, .int a3), (4, .int (l3_4 + (1 : Int32)))] rfl (ih (l3_4 + (1 : Int32)) S22 hf)
  exact Go.sub [1, 2, 3, 4, 0] [(0, .ref a0), (1, .int a1), (2, .ref a2), (3, .int a3), (4, .int (0 : Int32))] rfl (L3 n (0 : Int32) S hf)
theorem dX7_library_0 : decode cX7_library 0 = .ok (.iload_n 1, 1) := by decide +kernel
theorem dX7_library_1 : decode cX7_library 1 = .ok (.invokestatic 83, 3) := by decide +kernel
theorem dX7_library_4 : decode cX7_library 4 = .ok (.ifCond .ne 5, 3) := by decide +kernel
theorem dX7_library_7 : decode cX7_library 7 = .ok (.iconst (-1), 1) := by decide +kernel
theorem dX7_library_8 : decode cX7_library 8 = .ok (.ireturn, 1) := by decide +kernel
theorem dX7_library_9 : decode cX7_library 9 = .ok (.aload_n 0, 1) := by decide +kernel
theorem dX7_library_10 : decode cX7_library 10 = .ok (.getfield 16, 3) := by decide +kernel
theorem dX7_library_13 : decode cX7_library 13 = .ok (.iload_n 1, 1) := by decide +kernel
theorem dX7_library_14 : decode cX7_library 14 = .ok (.iaload, 1) := by decide +kernel
theorem dX7_library_15 : decode cX7_library 15 = .ok (.ifCond .ge 9, 3) := by decide +kernel
theorem dX7_library_18 : decode cX7_library 18 = .ok (.aload_n 0, 1) := by decide +kernel
theorem dX7_library_19 : decode cX7_library 19 = .ok (.iconst 1, 1) := by decide +kernel
theorem dX7_library_20 : decode cX7_library 20 = .ok (.invokevirtual 76, 3) := by decide +kernel
theorem dX7_library_23 : decode cX7_library 23 = .ok (.ireturn, 1) := by decide +kernel
theorem dX7_library_24 : decode cX7_library 24 = .ok (.aload_n 0, 1) := by decide +kernel
theorem dX7_library_25 : decode cX7_library 25 = .ok (.iload_n 1, 1) := by decide +kernel
theorem dX7_library_26 : decode cX7_library 26 = .ok (.invokevirtual 109, 3) := by decide +kernel
theorem dX7_library_29 : decode cX7_library 29 = .ok (.bipush (-9), 2) := by decide +kernel
theorem dX7_library_31 : decode cX7_library 31 = .ok (.if_icmp .eq 6, 3) := by decide +kernel
theorem dX7_library_34 : decode cX7_library 34 = .ok (.bipush (-4), 2) := by decide +kernel
theorem dX7_library_36 : decode cX7_library 36 = .ok (.ireturn, 1) := by decide +kernel
theorem dX7_library_37 : decode cX7_library 37 = .ok (.aload_n 0, 1) := by decide +kernel
theorem dX7_library_38 : decode cX7_library 38 = .ok (.getfield 39, 3) := by decide +kernel
theorem dX7_library_41 : decode cX7_library 41 = .ok (.iconst 0, 1) := by decide +kernel
theorem dX7_library_42 : decode cX7_library 42 = .ok (.aload_n 0, 1) := by decide +kernel
theorem dX7_library_43 : decode cX7_library 43 = .ok (.getfield 22, 3) := by decide +kernel
theorem dX7_library_46 : decode cX7_library 46 = .ok (.iconst 0, 1) := by decide +kernel
theorem dX7_library_47 : decode cX7_library 47 = .ok (.invokestatic 112, 3) := by decide +kernel
theorem dX7_library_50 : decode cX7_library 50 = .ok (.iconst 0, 1) := by decide +kernel
theorem dX7_library_51 : decode cX7_library 51 = .ok (.istore_n 2, 1) := by decide +kernel
theorem dX7_library_52 : decode cX7_library 52 = .ok (.iload_n 2, 1) := by decide +kernel
theorem dX7_library_53 : decode cX7_library 53 = .ok (.iconst 3, 1) := by decide +kernel
theorem dX7_library_54 : decode cX7_library 54 = .ok (.if_icmp .ge 16, 3) := by decide +kernel
theorem dX7_library_57 : decode cX7_library 57 = .ok (.aload_n 0, 1) := by decide +kernel
theorem dX7_library_58 : decode cX7_library 58 = .ok (.getfield 28, 3) := by decide +kernel
theorem dX7_library_61 : decode cX7_library 61 = .ok (.iload_n 2, 1) := by decide +kernel
theorem dX7_library_62 : decode cX7_library 62 = .ok (.iconst 0, 1) := by decide +kernel
theorem dX7_library_63 : decode cX7_library 63 = .ok (.bastore, 1) := by decide +kernel
theorem dX7_library_64 : decode cX7_library 64 = .ok (.iinc 2 1, 3) := by decide +kernel
theorem dX7_library_67 : decode cX7_library 67 = .ok (.goto (-15), 3) := by decide +kernel
theorem dX7_library_70 : decode cX7_library 70 = .ok (.aload_n 0, 1) := by decide +kernel
theorem dX7_library_71 : decode cX7_library 71 = .ok (.getfield 22, 3) := by decide +kernel
theorem dX7_library_74 : decode cX7_library 74 = .ok (.iconst 0, 1) := by decide +kernel
theorem dX7_library_75 : decode cX7_library 75 = .ok (.iaload, 1) := by decide +kernel
theorem dX7_library_76 : decode cX7_library 76 = .ok (.ireturn, 1) := by decide +kernel
def F_X7_library_L52 (a0 : Nat) (K70 : aSt → Option (Int32 × aSt)) : Nat → Int32 → aSt → Option (Int32 × aSt)
  | 0, _, _ => none
  | fu + 1, l52_2, l52S =>
    if (3 : Int32) ≤ l52_2 then (K70 l52S) else
    rfd (l52S.2.2 a0 6) 8 fun k58 =>
    grd (inb l52_2 (SH k58).2) <|
    nm (stI l52S k58 l52_2.toNatClampNeg (vp_nar .boolean (0 : Int32))) fun S63 =>
    F_X7_library_L52 a0 K70 fu (l52_2 + (1 : Int32)) S63
def F_X7_library (n : Nat) (S : aSt) (a0 : Nat) (a1 : Int32) : Option (Int32 × aSt) :=
(F_X7_isText n S a1).bind fun r1 =>
if r1 = 0 then (some ((-1 : Int32), S)) else
rfd (S.2.2 a0 2) 7 fun k10 =>
grd (inb a1 (SH k10).2) <|
if 0 ≤ (S.1 k10 a1.toNatClampNeg) then (bn2 (F_X7_reads n S a0 a1) fun r26 S26 =>
if r26 = (-9 : Int32) then (rfd (S26.2.2 a0 12) 7 fun k38 =>
rfd (S26.2.2 a0 4) 7 fun k43 =>
(F_X7_copies n S26 k38 (0 : Int32) k43 (0 : Int32)).bind fun S47 =>
jn (fun (x70S : aSt) => (rfd (x70S.2.2 a0 4) 7 fun k71 =>
grd (inb (0 : Int32) (SH k71).2) <|
some ((x70S.1 k71 (0 : Int32).toNatClampNeg), x70S) : Option (Int32 × aSt))) fun K70 =>
F_X7_library_L52 a0 K70 n (0 : Int32) S47) else
some ((-4 : Int32), S26)) else
bn2 (F_X7_found n S a0 (1 : Int32)) fun r20 S20 =>
some (r20, S20)
set_option maxHeartbeats 4000000 in
set_option maxRecDepth 100000 in
theorem C_X7_library (G : aG) (l : Launch) (n : Nat) (S : aSt) (a0 : Nat) (a1 : Int32) (r : Int32) (Sr : aSt) (ha0 : isT a0 6 = true) (hf : F_X7_library n S a0 a1 = some (r, Sr)) : Ctr G l yX7_library mX7_library (rmM 5) 97 97 S [.ref a0, .int a1] (some (.int r)) Sr := by
  refine Ctr.of (by decide) rfl rfl (Nat.le_of_ble_eq_true rfl) [(0, .ref a0), (1, .int a1)] rfl ?_
  unfold F_X7_library at hf
  refine Go.iload_n 1 1 rfl dX7_library_0 rfl ?_
  obtain ⟨r1, er1, hf⟩ := f_bnd hf
  refine Go.cS 4 [.int a1] [] (C_X7_isText G l n S a1 r1  er1) rfl dX7_library_1 cx_X7_83 (by decide) (by decide) rfl (Nat.le_of_ble_eq_true rfl) ?_
  refine Go.if_ne 9 7 rfl dX7_library_4 rfl (fun hc => ?_) (fun hc => ?_)
  · replace hf := f_el hf hc
    refine Go.aload_n 0 10 rfl dX7_library_9 rfl ?_
    obtain ⟨k10, qk10, hk10, hf⟩ := f_rfd hf
    refine Go.getR 13 rfl dX7_library_10 fl_X7_16 rfl (isT_lt ha0) (isT_sh ha0) qk10 ?_
    refine Go.iload_n 1 14 rfl dX7_library_13 rfl ?_
    obtain ⟨g14, hf⟩ := f_grd hf
    refine Go.iald 15 rfl dX7_library_14 (isT_lt hk10) (isT_sh hk10) g14 ?_
    refine Go.if_ge 24 18 rfl dX7_library_15 rfl (fun hc => ?_) (fun hc => ?_)
    · replace hf := f_if hf hc
      refine Go.aload_n 0 25 rfl dX7_library_24 rfl ?_
      refine Go.iload_n 1 26 rfl dX7_library_25 rfl ?_
      obtain ⟨r26, S26, er26, hf⟩ := f_bn2 hf
      refine Go.cV 29 [.int a1] [] (C_X7_reads G l n S a0 a1 r26 S26 ha0 er26) rfl dX7_library_26 cv_X7_109 ha0 (by decide) (by decide) rfl (Nat.le_of_ble_eq_true rfl) ?_
      refine Go.bipush (-9 : Int32) 31 rfl dX7_library_29 cb_m9 ?_
      refine Go.icmp_eq 37 34 rfl dX7_library_31 rfl (fun hc => ?_) (fun hc => ?_)
      · replace hf := f_if hf hc
        refine Go.aload_n 0 38 rfl dX7_library_37 rfl ?_
        obtain ⟨k38, qk38, hk38, hf⟩ := f_rfd hf
        refine Go.getR 41 rfl dX7_library_38 fl_X7_39 rfl (isT_lt ha0) (isT_sh ha0) qk38 ?_
        refine Go.iconst (0 : Int32) 42 rfl dX7_library_41 ci_0 ?_
        refine Go.aload_n 0 43 rfl dX7_library_42 rfl ?_
        obtain ⟨k43, qk43, hk43, hf⟩ := f_rfd hf
        refine Go.getR 46 rfl dX7_library_43 fl_X7_22 rfl (isT_lt ha0) (isT_sh ha0) qk43 ?_
        refine Go.iconst (0 : Int32) 47 rfl dX7_library_46 ci_0 ?_
        obtain ⟨S47, eS47, hf⟩ := f_bnd hf
        refine Go.cSv 50 [.ref k38, .int (0 : Int32), .ref k43, .int (0 : Int32)] [] (C_X7_copies G l n S26 k38 (0 : Int32) k43 (0 : Int32) S47 hk38 hk43 eS47) rfl dX7_library_47 cx_X7_112 (by decide) (by decide) rfl (Nat.le_of_ble_eq_true rfl) ?_
        refine Go.iconst (0 : Int32) 51 rfl dX7_library_50 ci_0 ?_
        refine Go.istore_n 52 [(2, .int (0 : Int32)), (0, .ref a0), (1, .int a1)] rfl dX7_library_51 (by decide) rfl ?_
        obtain ⟨K70, eK70, hf⟩ := f_jn hf
        have J70 : ∀ (x70S : aSt), K70 x70S = some (r, Sr) → GoM G l 5 (TmR G (some (.int r)) 97 Sr 0 0) mX7_library 70 [(0, .ref a0)] [] x70S := by
          intro x70S hf
          rw [eK70] at hf
          refine Go.aload_n 0 71 rfl dX7_library_70 rfl ?_
          obtain ⟨k71, qk71, hk71, hf⟩ := f_rfd hf
          refine Go.getR 74 rfl dX7_library_71 fl_X7_22 rfl (isT_lt ha0) (isT_sh ha0) qk71 ?_
          refine Go.iconst (0 : Int32) 75 rfl dX7_library_74 ci_0 ?_
          obtain ⟨g75, hf⟩ := f_grd hf
          refine Go.iald 76 rfl dX7_library_75 (isT_lt hk71) (isT_sh hk71) g75 ?_
          exact Go.irS rfl dX7_library_76 hf
        clear eK70
        have L52 : ∀ (fu : Nat) (l52_2 : Int32) (l52S : aSt), F_X7_library_L52 a0 K70 fu l52_2 l52S = some (r, Sr) → GoM G l 5 (TmR G (some (.int r)) 97 Sr 0 0) mX7_library 52 [(0, .ref a0), (2, .int l52_2)] [] l52S := by
          intro fu
          induction fu with
          | zero => intro l52_2 l52S hf; rw [F_X7_library_L52] at hf; cases hf
          | succ fu ih =>
            intro l52_2 l52S hf
            rw [F_X7_library_L52] at hf
            refine Go.iload_n 1 53 rfl dX7_library_52 rfl ?_
            refine Go.iconst (3 : Int32) 54 rfl dX7_library_53 ci_3 ?_
            refine Go.icmp_ge 70 57 rfl dX7_library_54 rfl (fun hc => ?_) (fun hc => ?_)
            · replace hf := f_if hf hc
              exact Go.sub [0] [(0, .ref a0)] rfl (J70 l52S hf)
            · replace hf := f_el hf hc
              refine Go.aload_n 0 58 rfl dX7_library_57 rfl ?_
              obtain ⟨k58, qk58, hk58, hf⟩ := f_rfd hf
              refine Go.getR 61 rfl dX7_library_58 fl_X7_28 rfl (isT_lt ha0) (isT_sh ha0) qk58 ?_
              refine Go.iload_n 1 62 rfl dX7_library_61 rfl ?_
              refine Go.iconst (0 : Int32) 63 rfl dX7_library_62 ci_0 ?_
              obtain ⟨g63, hf⟩ := f_grd hf
              obtain ⟨S63, eS63, hf⟩ := f_nm hf
              refine Go.zast 64 rfl dX7_library_63 (isT_lt hk58) (isT_sh hk58) g63 (Go.stt S63 eS63 ?_)
              refine Go.inc 1 67 (1 : Int32) [(2, .int (l52_2 + (1 : Int32))), (0, .ref a0)] rfl dX7_library_64 rfl ci_1 (by decide) rfl ?_
              refine Go.goto 52 dX7_library_67 rfl ?_
              exact Go.sub [1, 0] [(0, .ref a0), (2, .int (l52_2 + (1 : Int32)))] rfl (ih (l52_2 + (1 : Int32)) S63 hf)
        exact Go.sub [1, 0] [(0, .ref a0), (2, .int (0 : Int32))] rfl (L52 n (0 : Int32) S47 hf)
      · replace hf := f_el hf hc
        refine Go.bipush (-4 : Int32) 36 rfl dX7_library_34 cb_m4 ?_
        exact Go.irS rfl dX7_library_36 hf
    · replace hf := f_el hf hc
      refine Go.aload_n 0 19 rfl dX7_library_18 rfl ?_
      refine Go.iconst (1 : Int32) 20 rfl dX7_library_19 ci_1 ?_
      obtain ⟨r20, S20, er20, hf⟩ := f_bn2 hf
      refine Go.cV 23 [.int (1 : Int32)] [] (C_X7_found G l n S a0 (1 : Int32) r20 S20 ha0 er20) rfl dX7_library_20 cv_X7_76 ha0 (by decide) (by decide) rfl (Nat.le_of_ble_eq_true rfl) ?_
      exact Go.irS rfl dX7_library_23 hf
  · replace hf := f_if hf hc
    refine Go.iconst (-1 : Int32) 8 rfl dX7_library_7 ci_m1 ?_
    exact Go.irS rfl dX7_library_8 hf
theorem dX7_isCard_0 : decode cX7_isCard 0 = .ok (.iload_n 1, 1) := by decide +kernel
theorem dX7_isCard_1 : decode cX7_isCard 1 = .ok (.i2l, 1) := by decide +kernel
theorem dX7_isCard_2 : decode cX7_isCard 2 = .ok (.lconst 0, 1) := by decide +kernel
theorem dX7_isCard_3 : decode cX7_isCard 3 = .ok (.aload_n 0, 1) := by decide +kernel
theorem dX7_isCard_4 : decode cX7_isCard 4 = .ok (.getfield 22, 3) := by decide +kernel
theorem dX7_isCard_7 : decode cX7_isCard 7 = .ok (.iconst 0, 1) := by decide +kernel
theorem dX7_isCard_8 : decode cX7_isCard 8 = .ok (.iaload, 1) := by decide +kernel
theorem dX7_isCard_9 : decode cX7_isCard 9 = .ok (.iconst 1, 1) := by decide +kernel
theorem dX7_isCard_10 : decode cX7_isCard 10 = .ok (.isub, 1) := by decide +kernel
theorem dX7_isCard_11 : decode cX7_isCard 11 = .ok (.i2l, 1) := by decide +kernel
theorem dX7_isCard_12 : decode cX7_isCard 12 = .ok (.invokestatic 66, 3) := by decide +kernel
theorem dX7_isCard_15 : decode cX7_isCard 15 = .ok (.ireturn, 1) := by decide +kernel
def F_X7_isCard (n : Nat) (S : aSt) (a0 : Nat) (a1 : Int32) : Option Int32 :=
rfd (S.2.2 a0 4) 7 fun k4 =>
grd (inb (0 : Int32) (SH k4).2) <|
(F_X7_in n S a1.toInt64 (0 : Int64) ((S.1 k4 (0 : Int32).toNatClampNeg) - (1 : Int32)).toInt64).bind fun r12 =>
grd (isB r12) <|
some r12
set_option maxHeartbeats 4000000 in
set_option maxRecDepth 100000 in
theorem C_X7_isCard (G : aG) (l : Launch) (n : Nat) (S : aSt) (a0 : Nat) (a1 : Int32) (r : Int32) (ha0 : isT a0 6 = true) (hf : F_X7_isCard n S a0 a1 = some r) : Ctr G l yX7_isCard mX7_isCard (rmM 2) 97 97 S [.ref a0, .int a1] (some (.int r)) S := by
  refine Ctr.of (by decide) rfl rfl (Nat.le_of_ble_eq_true rfl) [(0, .ref a0), (1, .int a1)] rfl ?_
  unfold F_X7_isCard at hf
  refine Go.iload_n 1 1 rfl dX7_isCard_0 rfl ?_
  refine Go.i2l 2 rfl dX7_isCard_1 ?_
  refine Go.lconst (0 : Int64) 3 rfl dX7_isCard_2 cl_0 ?_
  refine Go.aload_n 0 4 rfl dX7_isCard_3 rfl ?_
  obtain ⟨k4, qk4, hk4, hf⟩ := f_rfd hf
  refine Go.getR 7 rfl dX7_isCard_4 fl_X7_22 rfl (isT_lt ha0) (isT_sh ha0) qk4 ?_
  refine Go.iconst (0 : Int32) 8 rfl dX7_isCard_7 ci_0 ?_
  obtain ⟨g8, hf⟩ := f_grd hf
  refine Go.iald 9 rfl dX7_isCard_8 (isT_lt hk4) (isT_sh hk4) g8 ?_
  refine Go.iconst (1 : Int32) 10 rfl dX7_isCard_9 ci_1 ?_
  refine Go.isub 11 rfl dX7_isCard_10 ?_
  refine Go.i2l 12 rfl dX7_isCard_11 ?_
  obtain ⟨r12, er12, hf⟩ := f_bnd hf
  refine Go.cS 15 [.long a1.toInt64, .long (0 : Int64), .long ((S.1 k4 (0 : Int32).toNatClampNeg) - (1 : Int32)).toInt64] [] (C_X7_in G l n S a1.toInt64 (0 : Int64) ((S.1 k4 (0 : Int32).toNatClampNeg) - (1 : Int32)).toInt64 r12  er12) rfl dX7_isCard_12 cx_X7_66 (by decide) (by decide) rfl (Nat.le_of_ble_eq_true rfl) ?_
  obtain ⟨gb, hf⟩ := f_grd hf
  exact Go.zr rfl (isB_or gb) dX7_isCard_15 hf
theorem dX7_isQuestion_0 : decode cX7_isQuestion 0 = .ok (.iload_n 1, 1) := by decide +kernel
theorem dX7_isQuestion_1 : decode cX7_isQuestion 1 = .ok (.i2l, 1) := by decide +kernel
theorem dX7_isQuestion_2 : decode cX7_isQuestion 2 = .ok (.lconst 0, 1) := by decide +kernel
theorem dX7_isQuestion_3 : decode cX7_isQuestion 3 = .ok (.aload_n 0, 1) := by decide +kernel
theorem dX7_isQuestion_4 : decode cX7_isQuestion 4 = .ok (.getfield 22, 3) := by decide +kernel
theorem dX7_isQuestion_7 : decode cX7_isQuestion 7 = .ok (.iconst 1, 1) := by decide +kernel
theorem dX7_isQuestion_8 : decode cX7_isQuestion 8 = .ok (.iaload, 1) := by decide +kernel
theorem dX7_isQuestion_9 : decode cX7_isQuestion 9 = .ok (.iconst 1, 1) := by decide +kernel
theorem dX7_isQuestion_10 : decode cX7_isQuestion 10 = .ok (.isub, 1) := by decide +kernel
theorem dX7_isQuestion_11 : decode cX7_isQuestion 11 = .ok (.i2l, 1) := by decide +kernel
theorem dX7_isQuestion_12 : decode cX7_isQuestion 12 = .ok (.invokestatic 66, 3) := by decide +kernel
theorem dX7_isQuestion_15 : decode cX7_isQuestion 15 = .ok (.ireturn, 1) := by decide +kernel
def F_X7_isQuestion (n : Nat) (S : aSt) (a0 : Nat) (a1 : Int32) : Option Int32 :=
rfd (S.2.2 a0 4) 7 fun k4 =>
grd (inb (1 : Int32) (SH k4).2) <|
(F_X7_in n S a1.toInt64 (0 : Int64) ((S.1 k4 (1 : Int32).toNatClampNeg) - (1 : Int32)).toInt64).bind fun r12 =>
grd (isB r12) <|
some r12
set_option maxHeartbeats 4000000 in
set_option maxRecDepth 100000 in
theorem C_X7_isQuestion (G : aG) (l : Launch) (n : Nat) (S : aSt) (a0 : Nat) (a1 : Int32) (r : Int32) (ha0 : isT a0 6 = true) (hf : F_X7_isQuestion n S a0 a1 = some r) : Ctr G l yX7_isQuestion mX7_isQuestion (rmM 2) 97 97 S [.ref a0, .int a1] (some (.int r)) S := by
  refine Ctr.of (by decide) rfl rfl (Nat.le_of_ble_eq_true rfl) [(0, .ref a0), (1, .int a1)] rfl ?_
  unfold F_X7_isQuestion at hf
  refine Go.iload_n 1 1 rfl dX7_isQuestion_0 rfl ?_
  refine Go.i2l 2 rfl dX7_isQuestion_1 ?_
  refine Go.lconst (0 : Int64) 3 rfl dX7_isQuestion_2 cl_0 ?_
  refine Go.aload_n 0 4 rfl dX7_isQuestion_3 rfl ?_
  obtain ⟨k4, qk4, hk4, hf⟩ := f_rfd hf
  refine Go.getR 7 rfl dX7_isQuestion_4 fl_X7_22 rfl (isT_lt ha0) (isT_sh ha0) qk4 ?_
  refine Go.iconst (1 : Int32) 8 rfl dX7_isQuestion_7 ci_1 ?_
  obtain ⟨g8, hf⟩ := f_grd hf
  refine Go.iald 9 rfl dX7_isQuestion_8 (isT_lt hk4) (isT_sh hk4) g8 ?_
  refine Go.iconst (1 : Int32) 10 rfl dX7_isQuestion_9 ci_1 ?_
  refine Go.isub 11 rfl dX7_isQuestion_10 ?_
  refine Go.i2l 12 rfl dX7_isQuestion_11 ?_
  obtain ⟨r12, er12, hf⟩ := f_bnd hf
  refine Go.cS 15 [.long a1.toInt64, .long (0 : Int64), .long ((S.1 k4 (1 : Int32).toNatClampNeg) - (1 : Int32)).toInt64] [] (C_X7_in G l n S a1.toInt64 (0 : Int64) ((S.1 k4 (1 : Int32).toNatClampNeg) - (1 : Int32)).toInt64 r12  er12) rfl dX7_isQuestion_12 cx_X7_66 (by decide) (by decide) rfl (Nat.le_of_ble_eq_true rfl) ?_
  obtain ⟨gb, hf⟩ := f_grd hf
  exact Go.zr rfl (isB_or gb) dX7_isQuestion_15 hf
theorem dX7_isOf_0 : decode cX7_isOf 0 = .ok (.iload_n 1, 1) := by decide +kernel
theorem dX7_isOf_1 : decode cX7_isOf 1 = .ok (.ifCond .eq 28, 3) := by decide +kernel
theorem dX7_isOf_4 : decode cX7_isOf 4 = .ok (.iload_n 0, 1) := by decide +kernel
theorem dX7_isOf_5 : decode cX7_isOf 5 = .ok (.iload_n 1, 1) := by decide +kernel
theorem dX7_isOf_6 : decode cX7_isOf 6 = .ok (.if_icmp .eq 23, 3) := by decide +kernel
theorem dX7_isOf_9 : decode cX7_isOf 9 = .ok (.iload_n 1, 1) := by decide +kernel
theorem dX7_isOf_10 : decode cX7_isOf 10 = .ok (.iconst 1, 1) := by decide +kernel
theorem dX7_isOf_11 : decode cX7_isOf 11 = .ok (.if_icmp .ne 8, 3) := by decide +kernel
theorem dX7_isOf_14 : decode cX7_isOf 14 = .ok (.iload_n 0, 1) := by decide +kernel
theorem dX7_isOf_15 : decode cX7_isOf 15 = .ok (.iconst 3, 1) := by decide +kernel
theorem dX7_isOf_16 : decode cX7_isOf 16 = .ok (.if_icmp .eq 13, 3) := by decide +kernel
theorem dX7_isOf_19 : decode cX7_isOf 19 = .ok (.iload_n 1, 1) := by decide +kernel
theorem dX7_isOf_20 : decode cX7_isOf 20 = .ok (.iconst 2, 1) := by decide +kernel
theorem dX7_isOf_21 : decode cX7_isOf 21 = .ok (.if_icmp .ne 12, 3) := by decide +kernel
theorem dX7_isOf_24 : decode cX7_isOf 24 = .ok (.iload_n 0, 1) := by decide +kernel
theorem dX7_isOf_25 : decode cX7_isOf 25 = .ok (.iconst 5, 1) := by decide +kernel
theorem dX7_isOf_26 : decode cX7_isOf 26 = .ok (.if_icmp .ne 7, 3) := by decide +kernel
theorem dX7_isOf_29 : decode cX7_isOf 29 = .ok (.iconst 1, 1) := by decide +kernel
theorem dX7_isOf_30 : decode cX7_isOf 30 = .ok (.goto 4, 3) := by decide +kernel
theorem dX7_isOf_33 : decode cX7_isOf 33 = .ok (.iconst 0, 1) := by decide +kernel
theorem dX7_isOf_34 : decode cX7_isOf 34 = .ok (.ireturn, 1) := by decide +kernel
def F_X7_isOf (n : Nat) (S : aSt) (a0 : Int32) (a1 : Int32) : Option Int32 :=
if a1 = 0 then (some (1 : Int32)) else
if a0 = a1 then (some (1 : Int32)) else
jn ((if a1 = (2 : Int32) then (if a0 = (5 : Int32) then (some (1 : Int32)) else
some (0 : Int32)) else
some (0 : Int32) : Option Int32)) fun K19 =>
if a1 = (1 : Int32) then (if a0 = (3 : Int32) then (some (1 : Int32)) else
K19) else
K19
set_option maxHeartbeats 4000000 in
set_option maxRecDepth 100000 in
theorem C_X7_isOf (G : aG) (l : Launch) (n : Nat) (S : aSt) (a0 : Int32) (a1 : Int32) (r : Int32)  (hf : F_X7_isOf n S a0 a1 = some r) : Ctr G l yX7_isOf mX7_isOf (rmM 1) 97 97 S [.int a0, .int a1] (some (.int r)) S := by
  refine Ctr.of (by decide) rfl rfl (Nat.le_of_ble_eq_true rfl) [(0, .int a0), (1, .int a1)] rfl ?_
  unfold F_X7_isOf at hf
  refine Go.iload_n 1 1 rfl dX7_isOf_0 rfl ?_
  refine Go.if_eq 29 4 rfl dX7_isOf_1 rfl (fun hc => ?_) (fun hc => ?_)
  · replace hf := f_if hf hc
    refine Go.iconst (1 : Int32) 30 rfl dX7_isOf_29 ci_1 ?_
    refine Go.goto 34 dX7_isOf_30 rfl ?_
    exact Go.zr rfl (Or.inr rfl) dX7_isOf_34 hf
  · replace hf := f_el hf hc
    refine Go.iload_n 0 5 rfl dX7_isOf_4 rfl ?_
    refine Go.iload_n 1 6 rfl dX7_isOf_5 rfl ?_
    refine Go.icmp_eq 29 9 rfl dX7_isOf_6 rfl (fun hc => ?_) (fun hc => ?_)
    · replace hf := f_if hf hc
      refine Go.iconst (1 : Int32) 30 rfl dX7_isOf_29 ci_1 ?_
      refine Go.goto 34 dX7_isOf_30 rfl ?_
      exact Go.zr rfl (Or.inr rfl) dX7_isOf_34 hf
    · replace hf := f_el hf hc
      refine Go.iload_n 1 10 rfl dX7_isOf_9 rfl ?_
      refine Go.iconst (1 : Int32) 11 rfl dX7_isOf_10 ci_1 ?_
      obtain ⟨K19, eK19, hf⟩ := f_jn hf
      have J19 : K19 = some r → GoM G l 1 (TmR G (some (.int r)) 97 S 0 0) mX7_isOf 19 [(0, .int a0), (1, .int a1)] [] S := by
        intro hf
        rw [eK19] at hf
        refine Go.iload_n 1 20 rfl dX7_isOf_19 rfl ?_
        refine Go.iconst (2 : Int32) 21 rfl dX7_isOf_20 ci_2 ?_
        refine Go.icmp_ne 33 24 rfl dX7_isOf_21 rfl (fun hc => ?_) (fun hc => ?_)
        · replace hf := f_el hf hc
          refine Go.iconst (0 : Int32) 34 rfl dX7_isOf_33 ci_0 ?_
          exact Go.zr rfl (Or.inl rfl) dX7_isOf_34 hf
        · replace hf := f_if hf hc
          refine Go.iload_n 0 25 rfl dX7_isOf_24 rfl ?_
          refine Go.iconst (5 : Int32) 26 rfl dX7_isOf_25 ci_5 ?_
          refine Go.icmp_ne 33 29 rfl dX7_isOf_26 rfl (fun hc => ?_) (fun hc => ?_)
          · replace hf := f_el hf hc
            refine Go.iconst (0 : Int32) 34 rfl dX7_isOf_33 ci_0 ?_
            exact Go.zr rfl (Or.inl rfl) dX7_isOf_34 hf
          · replace hf := f_if hf hc
            refine Go.iconst (1 : Int32) 30 rfl dX7_isOf_29 ci_1 ?_
            refine Go.goto 34 dX7_isOf_30 rfl ?_
            exact Go.zr rfl (Or.inr rfl) dX7_isOf_34 hf
      clear eK19
      refine Go.icmp_ne 19 14 rfl dX7_isOf_11 rfl (fun hc => ?_) (fun hc => ?_)
      · replace hf := f_el hf hc
        exact J19 hf
      · replace hf := f_if hf hc
        refine Go.iload_n 0 15 rfl dX7_isOf_14 rfl ?_
        refine Go.iconst (3 : Int32) 16 rfl dX7_isOf_15 ci_3 ?_
        refine Go.icmp_eq 29 19 rfl dX7_isOf_16 rfl (fun hc => ?_) (fun hc => ?_)
        · replace hf := f_if hf hc
          refine Go.iconst (1 : Int32) 30 rfl dX7_isOf_29 ci_1 ?_
          refine Go.goto 34 dX7_isOf_30 rfl ?_
          exact Go.zr rfl (Or.inr rfl) dX7_isOf_34 hf
        · replace hf := f_el hf hc
          exact J19 hf
theorem dX7_means_0 : decode cX7_means 0 = .ok (.aload_n 0, 1) := by decide +kernel
theorem dX7_means_1 : decode cX7_means 1 = .ok (.getfield 22, 3) := by decide +kernel
theorem dX7_means_4 : decode cX7_means 4 = .ok (.bipush 10, 2) := by decide +kernel
theorem dX7_means_6 : decode cX7_means 6 = .ok (.iload_n 1, 1) := by decide +kernel
theorem dX7_means_7 : decode cX7_means 7 = .ok (.iadd, 1) := by decide +kernel
theorem dX7_means_8 : decode cX7_means 8 = .ok (.iaload, 1) := by decide +kernel
theorem dX7_means_9 : decode cX7_means 9 = .ok (.istore_n 2, 1) := by decide +kernel
theorem dX7_means_10 : decode cX7_means 10 = .ok (.aload_n 0, 1) := by decide +kernel
theorem dX7_means_11 : decode cX7_means 11 = .ok (.getfield 22, 3) := by decide +kernel
theorem dX7_means_14 : decode cX7_means 14 = .ok (.iconst 3, 1) := by decide +kernel
theorem dX7_means_15 : decode cX7_means 15 = .ok (.iload_n 1, 1) := by decide +kernel
theorem dX7_means_16 : decode cX7_means 16 = .ok (.iadd, 1) := by decide +kernel
theorem dX7_means_17 : decode cX7_means 17 = .ok (.iaload, 1) := by decide +kernel
theorem dX7_means_18 : decode cX7_means 18 = .ok (.tableswitch 69 1 5 #[34, 69, 45, 54, 47], 34) := by decide +kernel
theorem dX7_means_52 : decode cX7_means 52 = .ok (.iload_n 2, 1) := by decide +kernel
theorem dX7_means_53 : decode cX7_means 53 = .ok (.iconst 5, 1) := by decide +kernel
theorem dX7_means_54 : decode cX7_means 54 = .ok (.if_icmp .ge 7, 3) := by decide +kernel
theorem dX7_means_57 : decode cX7_means 57 = .ok (.iconst 0, 1) := by decide +kernel
theorem dX7_means_58 : decode cX7_means 58 = .ok (.goto 4, 3) := by decide +kernel
theorem dX7_means_61 : decode cX7_means 61 = .ok (.iconst 1, 1) := by decide +kernel
theorem dX7_means_62 : decode cX7_means 62 = .ok (.ireturn, 1) := by decide +kernel
theorem dX7_means_63 : decode cX7_means 63 = .ok (.iconst 0, 1) := by decide +kernel
theorem dX7_means_64 : decode cX7_means 64 = .ok (.ireturn, 1) := by decide +kernel
theorem dX7_means_65 : decode cX7_means 65 = .ok (.iload_n 2, 1) := by decide +kernel
theorem dX7_means_66 : decode cX7_means 66 = .ok (.iconst 1, 1) := by decide +kernel
theorem dX7_means_67 : decode cX7_means 67 = .ok (.iadd, 1) := by decide +kernel
theorem dX7_means_68 : decode cX7_means 68 = .ok (.bipush 10, 2) := by decide +kernel
theorem dX7_means_70 : decode cX7_means 70 = .ok (.irem, 1) := by decide +kernel
theorem dX7_means_71 : decode cX7_means 71 = .ok (.ireturn, 1) := by decide +kernel
theorem dX7_means_72 : decode cX7_means 72 = .ok (.iload_n 2, 1) := by decide +kernel
theorem dX7_means_73 : decode cX7_means 73 = .ok (.aload_n 0, 1) := by decide +kernel
theorem dX7_means_74 : decode cX7_means 74 = .ok (.getfield 22, 3) := by decide +kernel
theorem dX7_means_77 : decode cX7_means 77 = .ok (.bipush 24, 2) := by decide +kernel
theorem dX7_means_79 : decode cX7_means 79 = .ok (.iload_n 1, 1) := by decide +kernel
theorem dX7_means_80 : decode cX7_means 80 = .ok (.iadd, 1) := by decide +kernel
theorem dX7_means_81 : decode cX7_means 81 = .ok (.iaload, 1) := by decide +kernel
theorem dX7_means_82 : decode cX7_means 82 = .ok (.iadd, 1) := by decide +kernel
theorem dX7_means_83 : decode cX7_means 83 = .ok (.bipush 10, 2) := by decide +kernel
theorem dX7_means_85 : decode cX7_means 85 = .ok (.irem, 1) := by decide +kernel
theorem dX7_means_86 : decode cX7_means 86 = .ok (.ireturn, 1) := by decide +kernel
theorem dX7_means_87 : decode cX7_means 87 = .ok (.iload_n 2, 1) := by decide +kernel
theorem dX7_means_88 : decode cX7_means 88 = .ok (.ireturn, 1) := by decide +kernel
def F_X7_means (n : Nat) (S : aSt) (a0 : Nat) (a1 : Int32) : Option Int32 :=
rfd (S.2.2 a0 4) 7 fun k1 =>
grd (inb ((10 : Int32) + a1) (SH k1).2) <|
nm (S.1 k1 ((10 : Int32) + a1).toNatClampNeg) fun v9 =>
grd (inb ((3 : Int32) + a1) (SH k1).2) <|
if (S.1 k1 ((3 : Int32) + a1).toNatClampNeg) = (1 : Int32) then (if (5 : Int32) ≤ v9 then (some (1 : Int32)) else
some (0 : Int32)) else
if (S.1 k1 ((3 : Int32) + a1).toNatClampNeg) = (2 : Int32) then (some v9) else
if (S.1 k1 ((3 : Int32) + a1).toNatClampNeg) = (3 : Int32) then (some (0 : Int32)) else
if (S.1 k1 ((3 : Int32) + a1).toNatClampNeg) = (4 : Int32) then (grd (inb ((24 : Int32) + a1) (SH k1).2) <|
some ((v9 + (S.1 k1 ((24 : Int32) + a1).toNatClampNeg)) - (v9 + (S.1 k1 ((24 : Int32) + a1).toNatClampNeg)) / (10 : Int32) * (10 : Int32))) else
if (S.1 k1 ((3 : Int32) + a1).toNatClampNeg) = (5 : Int32) then (some ((v9 + (1 : Int32)) - (v9 + (1 : Int32)) / (10 : Int32) * (10 : Int32))) else
some v9
set_option maxHeartbeats 4000000 in
set_option maxRecDepth 100000 in
theorem C_X7_means (G : aG) (l : Launch) (n : Nat) (S : aSt) (a0 : Nat) (a1 : Int32) (r : Int32) (ha0 : isT a0 6 = true) (hf : F_X7_means n S a0 a1 = some r) : Ctr G l yX7_means mX7_means (rmM 1) 97 97 S [.ref a0, .int a1] (some (.int r)) S := by
  refine Ctr.of (by decide) rfl rfl (Nat.le_of_ble_eq_true rfl) [(0, .ref a0), (1, .int a1)] rfl ?_
  unfold F_X7_means at hf
  refine Go.aload_n 0 1 rfl dX7_means_0 rfl ?_
  obtain ⟨k1, qk1, hk1, hf⟩ := f_rfd hf
  refine Go.getR 4 rfl dX7_means_1 fl_X7_22 rfl (isT_lt ha0) (isT_sh ha0) qk1 ?_
  refine Go.bipush (10 : Int32) 6 rfl dX7_means_4 cb_10 ?_
  refine Go.iload_n 1 7 rfl dX7_means_6 rfl ?_
  refine Go.iadd 8 rfl dX7_means_7 ?_
  obtain ⟨g8, hf⟩ := f_grd hf
  refine Go.iald 9 rfl dX7_means_8 (isT_lt hk1) (isT_sh hk1) g8 ?_
  obtain ⟨v9, ev9, hf⟩ := f_nm hf
  refine Go.topi v9 ev9 ?_
  refine Go.istore_n 10 [(2, .int v9), (0, .ref a0), (1, .int a1)] rfl dX7_means_9 (by decide) rfl ?_
  refine Go.aload_n 1 11 rfl dX7_means_10 rfl ?_
  refine Go.getR 14 rfl dX7_means_11 fl_X7_22 rfl (isT_lt ha0) (isT_sh ha0) qk1 ?_
  refine Go.iconst (3 : Int32) 15 rfl dX7_means_14 ci_3 ?_
  refine Go.iload_n 2 16 rfl dX7_means_15 rfl ?_
  refine Go.iadd 17 rfl dX7_means_16 ?_
  obtain ⟨g17, hf⟩ := f_grd hf
  refine Go.iald 18 rfl dX7_means_17 (isT_lt hk1) (isT_sh hk1) g17 ?_
  by_cases hs18_0 : (S.1 k1 ((3 : Int32) + a1).toNatClampNeg) = (1 : Int32)
  · replace hf := f_if hf hs18_0
    refine Go.tin (1 : Int32) 52 hs18_0 dX7_means_18 (by decide) (by decide) rfl rfl ?_
    refine Go.iload_n 0 53 rfl dX7_means_52 rfl ?_
    refine Go.iconst (5 : Int32) 54 rfl dX7_means_53 ci_5 ?_
    refine Go.icmp_ge 61 57 rfl dX7_means_54 rfl (fun hc => ?_) (fun hc => ?_)
    · replace hf := f_if hf hc
      refine Go.iconst (1 : Int32) 62 rfl dX7_means_61 ci_1 ?_
      exact Go.ir rfl dX7_means_62 hf
    · replace hf := f_el hf hc
      refine Go.iconst (0 : Int32) 58 rfl dX7_means_57 ci_0 ?_
      refine Go.goto 62 dX7_means_58 rfl ?_
      exact Go.ir rfl dX7_means_62 hf
  replace hf := f_el hf hs18_0
  by_cases hs18_1 : (S.1 k1 ((3 : Int32) + a1).toNatClampNeg) = (2 : Int32)
  · replace hf := f_if hf hs18_1
    refine Go.tin (2 : Int32) 87 hs18_1 dX7_means_18 (by decide) (by decide) rfl rfl ?_
    refine Go.iload_n 0 88 rfl dX7_means_87 rfl ?_
    exact Go.ir rfl dX7_means_88 hf
  replace hf := f_el hf hs18_1
  by_cases hs18_2 : (S.1 k1 ((3 : Int32) + a1).toNatClampNeg) = (3 : Int32)
  · replace hf := f_if hf hs18_2
    refine Go.tin (3 : Int32) 63 hs18_2 dX7_means_18 (by decide) (by decide) rfl rfl ?_
    refine Go.iconst (0 : Int32) 64 rfl dX7_means_63 ci_0 ?_
    exact Go.ir rfl dX7_means_64 hf
  replace hf := f_el hf hs18_2
  by_cases hs18_3 : (S.1 k1 ((3 : Int32) + a1).toNatClampNeg) = (4 : Int32)
  · replace hf := f_if hf hs18_3
    refine Go.tin (4 : Int32) 72 hs18_3 dX7_means_18 (by decide) (by decide) rfl rfl ?_
    refine Go.iload_n 0 73 rfl dX7_means_72 rfl ?_
    refine Go.aload_n 1 74 rfl dX7_means_73 rfl ?_
    refine Go.getR 77 rfl dX7_means_74 fl_X7_22 rfl (isT_lt ha0) (isT_sh ha0) qk1 ?_
    refine Go.bipush (24 : Int32) 79 rfl dX7_means_77 cb_24 ?_
    refine Go.iload_n 2 80 rfl dX7_means_79 rfl ?_
    refine Go.iadd 81 rfl dX7_means_80 ?_
    obtain ⟨g81, hf⟩ := f_grd hf
    refine Go.iald 82 rfl dX7_means_81 (isT_lt hk1) (isT_sh hk1) g81 ?_
    refine Go.iadd 83 rfl dX7_means_82 ?_
    refine Go.bipush (10 : Int32) 85 rfl dX7_means_83 cb_10 ?_
    refine Go.irem 86 rfl dX7_means_85 (by decide) ?_
    exact Go.ir rfl dX7_means_86 hf
  replace hf := f_el hf hs18_3
  by_cases hs18_4 : (S.1 k1 ((3 : Int32) + a1).toNatClampNeg) = (5 : Int32)
  · replace hf := f_if hf hs18_4
    refine Go.tin (5 : Int32) 65 hs18_4 dX7_means_18 (by decide) (by decide) rfl rfl ?_
    refine Go.iload_n 0 66 rfl dX7_means_65 rfl ?_
    refine Go.iconst (1 : Int32) 67 rfl dX7_means_66 ci_1 ?_
    refine Go.iadd 68 rfl dX7_means_67 ?_
    refine Go.bipush (10 : Int32) 70 rfl dX7_means_68 cb_10 ?_
    refine Go.irem 71 rfl dX7_means_70 (by decide) ?_
    exact Go.ir rfl dX7_means_71 hf
  replace hf := f_el hf hs18_4
  have nhs18_0 := tsw_ne (z := 1) hs18_0 (by decide)
  have nhs18_1 := tsw_ne (z := 2) hs18_1 (by decide)
  have nhs18_2 := tsw_ne (z := 3) hs18_2 (by decide)
  have nhs18_3 := tsw_ne (z := 4) hs18_3 (by decide)
  have nhs18_4 := tsw_ne (z := 5) hs18_4 (by decide)
  refine Go.tout 87 dX7_means_18 (by omega) rfl ?_
  refine Go.iload_n 0 88 rfl dX7_means_87 rfl ?_
  exact Go.ir rfl dX7_means_88 hf
theorem dX7_suits_0 : decode cX7_suits 0 = .ok (.aload_n 0, 1) := by decide +kernel
theorem dX7_suits_1 : decode cX7_suits 1 = .ok (.getfield 22, 3) := by decide +kernel
theorem dX7_suits_4 : decode cX7_suits 4 = .ok (.iconst 3, 1) := by decide +kernel
theorem dX7_suits_5 : decode cX7_suits 5 = .ok (.iload_n 1, 1) := by decide +kernel
theorem dX7_suits_6 : decode cX7_suits 6 = .ok (.iadd, 1) := by decide +kernel
theorem dX7_suits_7 : decode cX7_suits 7 = .ok (.iaload, 1) := by decide +kernel
theorem dX7_suits_8 : decode cX7_suits 8 = .ok (.iload_n 2, 1) := by decide +kernel
theorem dX7_suits_9 : decode cX7_suits 9 = .ok (.invokestatic 116, 3) := by decide +kernel
theorem dX7_suits_12 : decode cX7_suits 12 = .ok (.ifCond .eq 24, 3) := by decide +kernel
theorem dX7_suits_15 : decode cX7_suits 15 = .ok (.aload_n 0, 1) := by decide +kernel
theorem dX7_suits_16 : decode cX7_suits 16 = .ok (.iload_n 1, 1) := by decide +kernel
theorem dX7_suits_17 : decode cX7_suits 17 = .ok (.invokevirtual 120, 3) := by decide +kernel
theorem dX7_suits_20 : decode cX7_suits 20 = .ok (.i2l, 1) := by decide +kernel
theorem dX7_suits_21 : decode cX7_suits 21 = .ok (.iload_n 3, 1) := by decide +kernel
theorem dX7_suits_22 : decode cX7_suits 22 = .ok (.i2l, 1) := by decide +kernel
theorem dX7_suits_23 : decode cX7_suits 23 = .ok (.iload 4, 2) := by decide +kernel
theorem dX7_suits_25 : decode cX7_suits 25 = .ok (.i2l, 1) := by decide +kernel
theorem dX7_suits_26 : decode cX7_suits 26 = .ok (.invokestatic 66, 3) := by decide +kernel
theorem dX7_suits_29 : decode cX7_suits 29 = .ok (.ifCond .eq 7, 3) := by decide +kernel
theorem dX7_suits_32 : decode cX7_suits 32 = .ok (.iconst 1, 1) := by decide +kernel
theorem dX7_suits_33 : decode cX7_suits 33 = .ok (.goto 4, 3) := by decide +kernel
theorem dX7_suits_36 : decode cX7_suits 36 = .ok (.iconst 0, 1) := by decide +kernel
theorem dX7_suits_37 : decode cX7_suits 37 = .ok (.ireturn, 1) := by decide +kernel
def F_X7_suits (n : Nat) (S : aSt) (a0 : Nat) (a1 : Int32) (a2 : Int32) (a3 : Int32) (a4 : Int32) : Option Int32 :=
rfd (S.2.2 a0 4) 7 fun k1 =>
grd (inb ((3 : Int32) + a1) (SH k1).2) <|
(F_X7_isOf n S (S.1 k1 ((3 : Int32) + a1).toNatClampNeg) a2).bind fun r9 =>
if r9 = 0 then (some (0 : Int32)) else
(F_X7_means n S a0 a1).bind fun r17 =>
(F_X7_in n S r17.toInt64 a3.toInt64 a4.toInt64).bind fun r26 =>
if r26 = 0 then (some (0 : Int32)) else
some (1 : Int32)
set_option maxHeartbeats 4000000 in
set_option maxRecDepth 100000 in
theorem C_X7_suits (G : aG) (l : Launch) (n : Nat) (S : aSt) (a0 : Nat) (a1 : Int32) (a2 : Int32) (a3 : Int32) (a4 : Int32) (r : Int32) (ha0 : isT a0 6 = true) (hf : F_X7_suits n S a0 a1 a2 a3 a4 = some r) : Ctr G l yX7_suits mX7_suits (rmM 2) 97 97 S [.ref a0, .int a1, .int a2, .int a3, .int a4] (some (.int r)) S := by
  refine Ctr.of (by decide) rfl rfl (Nat.le_of_ble_eq_true rfl) [(0, .ref a0), (1, .int a1), (2, .int a2), (3, .int a3), (4, .int a4)] rfl ?_
  unfold F_X7_suits at hf
  refine Go.aload_n 0 1 rfl dX7_suits_0 rfl ?_
  obtain ⟨k1, qk1, hk1, hf⟩ := f_rfd hf
  refine Go.getR 4 rfl dX7_suits_1 fl_X7_22 rfl (isT_lt ha0) (isT_sh ha0) qk1 ?_
  refine Go.iconst (3 : Int32) 5 rfl dX7_suits_4 ci_3 ?_
  refine Go.iload_n 1 6 rfl dX7_suits_5 rfl ?_
  refine Go.iadd 7 rfl dX7_suits_6 ?_
  obtain ⟨g7, hf⟩ := f_grd hf
  refine Go.iald 8 rfl dX7_suits_7 (isT_lt hk1) (isT_sh hk1) g7 ?_
  refine Go.iload_n 2 9 rfl dX7_suits_8 rfl ?_
  obtain ⟨r9, er9, hf⟩ := f_bnd hf
  refine Go.cS 12 [.int (S.1 k1 ((3 : Int32) + a1).toNatClampNeg), .int a2] [] (C_X7_isOf G l n S (S.1 k1 ((3 : Int32) + a1).toNatClampNeg) a2 r9  er9) rfl dX7_suits_9 cx_X7_116 (by decide) (by decide) rfl (Nat.le_of_ble_eq_true rfl) ?_
  refine Go.if_eq 36 15 rfl dX7_suits_12 rfl (fun hc => ?_) (fun hc => ?_)
  · replace hf := f_if hf hc
    refine Go.iconst (0 : Int32) 37 rfl dX7_suits_36 ci_0 ?_
    exact Go.zr rfl (Or.inl rfl) dX7_suits_37 hf
  · replace hf := f_el hf hc
    refine Go.aload_n 0 16 rfl dX7_suits_15 rfl ?_
    refine Go.iload_n 1 17 rfl dX7_suits_16 rfl ?_
    obtain ⟨r17, er17, hf⟩ := f_bnd hf
    refine Go.cV 20 [.int a1] [] (C_X7_means G l n S a0 a1 r17 ha0 er17) rfl dX7_suits_17 cv_X7_120 ha0 (by decide) (by decide) rfl (Nat.le_of_ble_eq_true rfl) ?_
    refine Go.i2l 21 rfl dX7_suits_20 ?_
    refine Go.iload_n 3 22 rfl dX7_suits_21 rfl ?_
    refine Go.i2l 23 rfl dX7_suits_22 ?_
    refine Go.iload 4 25 rfl dX7_suits_23 rfl ?_
    refine Go.i2l 26 rfl dX7_suits_25 ?_
    obtain ⟨r26, er26, hf⟩ := f_bnd hf
    refine Go.cS 29 [.long r17.toInt64, .long a3.toInt64, .long a4.toInt64] [] (C_X7_in G l n S r17.toInt64 a3.toInt64 a4.toInt64 r26  er26) rfl dX7_suits_26 cx_X7_66 (by decide) (by decide) rfl (Nat.le_of_ble_eq_true rfl) ?_
    refine Go.if_eq 36 32 rfl dX7_suits_29 rfl (fun hc => ?_) (fun hc => ?_)
    · replace hf := f_if hf hc
      refine Go.iconst (0 : Int32) 37 rfl dX7_suits_36 ci_0 ?_
      exact Go.zr rfl (Or.inl rfl) dX7_suits_37 hf
    · replace hf := f_el hf hc
      refine Go.iconst (1 : Int32) 33 rfl dX7_suits_32 ci_1 ?_
      refine Go.goto 37 dX7_suits_33 rfl ?_
      exact Go.zr rfl (Or.inr rfl) dX7_suits_37 hf
theorem dX7_isFit_0 : decode cX7_isFit 0 = .ok (.aload_n 0, 1) := by decide +kernel
theorem dX7_isFit_1 : decode cX7_isFit 1 = .ok (.iload_n 2, 1) := by decide +kernel
theorem dX7_isFit_2 : decode cX7_isFit 2 = .ok (.aload_n 0, 1) := by decide +kernel
theorem dX7_isFit_3 : decode cX7_isFit 3 = .ok (.getfield 22, 3) := by decide +kernel
theorem dX7_isFit_6 : decode cX7_isFit 6 = .ok (.bipush 31, 2) := by decide +kernel
theorem dX7_isFit_8 : decode cX7_isFit 8 = .ok (.iload_n 1, 1) := by decide +kernel
theorem dX7_isFit_9 : decode cX7_isFit 9 = .ok (.iadd, 1) := by decide +kernel
theorem dX7_isFit_10 : decode cX7_isFit 10 = .ok (.iaload, 1) := by decide +kernel
theorem dX7_isFit_11 : decode cX7_isFit 11 = .ok (.aload_n 0, 1) := by decide +kernel
theorem dX7_isFit_12 : decode cX7_isFit 12 = .ok (.getfield 22, 3) := by decide +kernel
theorem dX7_isFit_15 : decode cX7_isFit 15 = .ok (.bipush 38, 2) := by decide +kernel
theorem dX7_isFit_17 : decode cX7_isFit 17 = .ok (.iload_n 1, 1) := by decide +kernel
theorem dX7_isFit_18 : decode cX7_isFit 18 = .ok (.iadd, 1) := by decide +kernel
theorem dX7_isFit_19 : decode cX7_isFit 19 = .ok (.iaload, 1) := by decide +kernel
theorem dX7_isFit_20 : decode cX7_isFit 20 = .ok (.aload_n 0, 1) := by decide +kernel
theorem dX7_isFit_21 : decode cX7_isFit 21 = .ok (.getfield 22, 3) := by decide +kernel
theorem dX7_isFit_24 : decode cX7_isFit 24 = .ok (.bipush 45, 2) := by decide +kernel
theorem dX7_isFit_26 : decode cX7_isFit 26 = .ok (.iload_n 1, 1) := by decide +kernel
theorem dX7_isFit_27 : decode cX7_isFit 27 = .ok (.iadd, 1) := by decide +kernel
theorem dX7_isFit_28 : decode cX7_isFit 28 = .ok (.iaload, 1) := by decide +kernel
theorem dX7_isFit_29 : decode cX7_isFit 29 = .ok (.invokevirtual 123, 3) := by decide +kernel
theorem dX7_isFit_32 : decode cX7_isFit 32 = .ok (.ireturn, 1) := by decide +kernel
def F_X7_isFit (n : Nat) (S : aSt) (a0 : Nat) (a1 : Int32) (a2 : Int32) : Option Int32 :=
rfd (S.2.2 a0 4) 7 fun k3 =>
grd (inb ((31 : Int32) + a1) (SH k3).2) <|
grd (inb ((38 : Int32) + a1) (SH k3).2) <|
grd (inb ((45 : Int32) + a1) (SH k3).2) <|
(F_X7_suits n S a0 a2 (S.1 k3 ((31 : Int32) + a1).toNatClampNeg) (S.1 k3 ((38 : Int32) + a1).toNatClampNeg) (S.1 k3 ((45 : Int32) + a1).toNatClampNeg)).bind fun r29 =>
grd (isB r29) <|
some r29
set_option maxHeartbeats 4000000 in
set_option maxRecDepth 100000 in
theorem C_X7_isFit (G : aG) (l : Launch) (n : Nat) (S : aSt) (a0 : Nat) (a1 : Int32) (a2 : Int32) (r : Int32) (ha0 : isT a0 6 = true) (hf : F_X7_isFit n S a0 a1 a2 = some r) : Ctr G l yX7_isFit mX7_isFit (rmM 3) 97 97 S [.ref a0, .int a1, .int a2] (some (.int r)) S := by
  refine Ctr.of (by decide) rfl rfl (Nat.le_of_ble_eq_true rfl) [(0, .ref a0), (1, .int a1), (2, .int a2)] rfl ?_
  unfold F_X7_isFit at hf
  refine Go.aload_n 0 1 rfl dX7_isFit_0 rfl ?_
  refine Go.iload_n 2 2 rfl dX7_isFit_1 rfl ?_
  refine Go.aload_n 0 3 rfl dX7_isFit_2 rfl ?_
  obtain ⟨k3, qk3, hk3, hf⟩ := f_rfd hf
  refine Go.getR 6 rfl dX7_isFit_3 fl_X7_22 rfl (isT_lt ha0) (isT_sh ha0) qk3 ?_
  refine Go.bipush (31 : Int32) 8 rfl dX7_isFit_6 cb_31 ?_
  refine Go.iload_n 1 9 rfl dX7_isFit_8 rfl ?_
  refine Go.iadd 10 rfl dX7_isFit_9 ?_
  obtain ⟨g10, hf⟩ := f_grd hf
  refine Go.iald 11 rfl dX7_isFit_10 (isT_lt hk3) (isT_sh hk3) g10 ?_
  refine Go.aload_n 0 12 rfl dX7_isFit_11 rfl ?_
  refine Go.getR 15 rfl dX7_isFit_12 fl_X7_22 rfl (isT_lt ha0) (isT_sh ha0) qk3 ?_
  refine Go.bipush (38 : Int32) 17 rfl dX7_isFit_15 cb_38 ?_
  refine Go.iload_n 1 18 rfl dX7_isFit_17 rfl ?_
  refine Go.iadd 19 rfl dX7_isFit_18 ?_
  obtain ⟨g19, hf⟩ := f_grd hf
  refine Go.iald 20 rfl dX7_isFit_19 (isT_lt hk3) (isT_sh hk3) g19 ?_
  refine Go.aload_n 0 21 rfl dX7_isFit_20 rfl ?_
  refine Go.getR 24 rfl dX7_isFit_21 fl_X7_22 rfl (isT_lt ha0) (isT_sh ha0) qk3 ?_
  refine Go.bipush (45 : Int32) 26 rfl dX7_isFit_24 cb_45 ?_
  refine Go.iload_n 1 27 rfl dX7_isFit_26 rfl ?_
  refine Go.iadd 28 rfl dX7_isFit_27 ?_
  obtain ⟨g28, hf⟩ := f_grd hf
  refine Go.iald 29 rfl dX7_isFit_28 (isT_lt hk3) (isT_sh hk3) g28 ?_
  obtain ⟨r29, er29, hf⟩ := f_bnd hf
  refine Go.cV 32 [.int a2, .int (S.1 k3 ((31 : Int32) + a1).toNatClampNeg), .int (S.1 k3 ((38 : Int32) + a1).toNatClampNeg), .int (S.1 k3 ((45 : Int32) + a1).toNatClampNeg)] [] (C_X7_suits G l n S a0 a2 (S.1 k3 ((31 : Int32) + a1).toNatClampNeg) (S.1 k3 ((38 : Int32) + a1).toNatClampNeg) (S.1 k3 ((45 : Int32) + a1).toNatClampNeg) r29 ha0 er29) rfl dX7_isFit_29 cv_X7_123 ha0 (by decide) (by decide) rfl (Nat.le_of_ble_eq_true rfl) ?_
  obtain ⟨gb, hf⟩ := f_grd hf
  exact Go.zr rfl (isB_or gb) dX7_isFit_32 hf
theorem dX7_answers_0 : decode cX7_answers 0 = .ok (.bipush (-9), 2) := by decide +kernel
theorem dX7_answers_2 : decode cX7_answers 2 = .ok (.istore_n 2, 1) := by decide +kernel
theorem dX7_answers_3 : decode cX7_answers 3 = .ok (.iconst 0, 1) := by decide +kernel
theorem dX7_answers_4 : decode cX7_answers 4 = .ok (.istore_n 3, 1) := by decide +kernel
theorem dX7_answers_5 : decode cX7_answers 5 = .ok (.iload_n 3, 1) := by decide +kernel
theorem dX7_answers_6 : decode cX7_answers 6 = .ok (.aload_n 0, 1) := by decide +kernel
theorem dX7_answers_7 : decode cX7_answers 7 = .ok (.getfield 22, 3) := by decide +kernel
theorem dX7_answers_10 : decode cX7_answers 10 = .ok (.iconst 1, 1) := by decide +kernel
theorem dX7_answers_11 : decode cX7_answers 11 = .ok (.iaload, 1) := by decide +kernel
theorem dX7_answers_12 : decode cX7_answers 12 = .ok (.if_icmp .ge 28, 3) := by decide +kernel
theorem dX7_answers_15 : decode cX7_answers 15 = .ok (.aload_n 0, 1) := by decide +kernel
theorem dX7_answers_16 : decode cX7_answers 16 = .ok (.getfield 22, 3) := by decide +kernel
theorem dX7_answers_19 : decode cX7_answers 19 = .ok (.bipush 66, 2) := by decide +kernel
theorem dX7_answers_21 : decode cX7_answers 21 = .ok (.iload_n 3, 1) := by decide +kernel
theorem dX7_answers_22 : decode cX7_answers 22 = .ok (.iadd, 1) := by decide +kernel
theorem dX7_answers_23 : decode cX7_answers 23 = .ok (.iaload, 1) := by decide +kernel
theorem dX7_answers_24 : decode cX7_answers 24 = .ok (.iload_n 1, 1) := by decide +kernel
theorem dX7_answers_25 : decode cX7_answers 25 = .ok (.if_icmp .ne 7, 3) := by decide +kernel
theorem dX7_answers_28 : decode cX7_answers 28 = .ok (.iload_n 3, 1) := by decide +kernel
theorem dX7_answers_29 : decode cX7_answers 29 = .ok (.goto 4, 3) := by decide +kernel
theorem dX7_answers_32 : decode cX7_answers 32 = .ok (.iload_n 2, 1) := by decide +kernel
theorem dX7_answers_33 : decode cX7_answers 33 = .ok (.istore_n 2, 1) := by decide +kernel
theorem dX7_answers_34 : decode cX7_answers 34 = .ok (.iinc 3 1, 3) := by decide +kernel
theorem dX7_answers_37 : decode cX7_answers 37 = .ok (.goto (-32), 3) := by decide +kernel
theorem dX7_answers_40 : decode cX7_answers 40 = .ok (.iload_n 2, 1) := by decide +kernel
theorem dX7_answers_41 : decode cX7_answers 41 = .ok (.ireturn, 1) := by decide +kernel
def F_X7_answers_L5 (S : aSt) (a0 : Nat) (a1 : Int32) (K40 : Int32 → Option Int32) : Nat → Int32 → Int32 → Option Int32
  | 0, _, _ => none
  | fu + 1, l5_2, l5_3 =>
    rfd (S.2.2 a0 4) 7 fun k7 =>
    grd (inb (1 : Int32) (SH k7).2) <|
    if (S.1 k7 (1 : Int32).toNatClampNeg) ≤ l5_3 then (K40 l5_2) else
    grd (inb ((66 : Int32) + l5_3) (SH k7).2) <|
    jn (fun (j33s0 : Int32) => (F_X7_answers_L5 S a0 a1 K40 fu j33s0 (l5_3 + (1 : Int32)) : Option Int32)) fun K33 =>
    if (S.1 k7 ((66 : Int32) + l5_3).toNatClampNeg) = a1 then (K33 l5_3) else
    K33 l5_2
def F_X7_answers (n : Nat) (S : aSt) (a0 : Nat) (a1 : Int32) : Option Int32 :=
jn (fun (x40_2 : Int32) => (some x40_2 : Option Int32)) fun K40 =>
F_X7_answers_L5 S a0 a1 K40 n (-9 : Int32) (0 : Int32)
set_option maxHeartbeats 4000000 in
set_option maxRecDepth 100000 in
theorem C_X7_answers (G : aG) (l : Launch) (n : Nat) (S : aSt) (a0 : Nat) (a1 : Int32) (r : Int32) (ha0 : isT a0 6 = true) (hf : F_X7_answers n S a0 a1 = some r) : Ctr G l yX7_answers mX7_answers (rmM 1) 97 97 S [.ref a0, .int a1] (some (.int r)) S := by
  refine Ctr.of (by decide) rfl rfl (Nat.le_of_ble_eq_true rfl) [(0, .ref a0), (1, .int a1)] rfl ?_
  unfold F_X7_answers at hf
  refine Go.bipush (-9 : Int32) 2 rfl dX7_answers_0 cb_m9 ?_
  refine Go.istore_n 3 [(2, .int (-9 : Int32)), (0, .ref a0), (1, .int a1)] rfl dX7_answers_2 (by decide) rfl ?_
  refine Go.iconst (0 : Int32) 4 rfl dX7_answers_3 ci_0 ?_
  refine Go.istore_n 5 [(3, .int (0 : Int32)), (2, .int (-9 : Int32)), (0, .ref a0), (1, .int a1)] rfl dX7_answers_4 (by decide) rfl ?_
  obtain ⟨K40, eK40, hf⟩ := f_jn hf
  have J40 : ∀ (x40_2 : Int32), K40 x40_2 = some r → GoM G l 1 (TmR G (some (.int r)) 97 S 0 0) mX7_answers 40 [(2, .int x40_2)] [] S := by
    intro x40_2 hf
    rw [eK40] at hf
    refine Go.iload_n 0 41 rfl dX7_answers_40 rfl ?_
    exact Go.ir rfl dX7_answers_41 hf
  clear eK40
  have L5 : ∀ (fu : Nat) (l5_2 : Int32) (l5_3 : Int32), F_X7_answers_L5 S a0 a1 K40 fu l5_2 l5_3 = some r → GoM G l 1 (TmR G (some (.int r)) 97 S 0 0) mX7_answers 5 [(0, .ref a0), (1, .int a1), (2, .int l5_2), (3, .int l5_3)] [] S := by
    intro fu
    induction fu with
    | zero => intro l5_2 l5_3 hf; rw [F_X7_answers_L5] at hf; cases hf
    | succ fu ih =>
      intro l5_2 l5_3 hf
      rw [F_X7_answers_L5] at hf
      refine Go.iload_n 3 6 rfl dX7_answers_5 rfl ?_
      refine Go.aload_n 0 7 rfl dX7_answers_6 rfl ?_
      obtain ⟨k7, qk7, hk7, hf⟩ := f_rfd hf
      refine Go.getR 10 rfl dX7_answers_7 fl_X7_22 rfl (isT_lt ha0) (isT_sh ha0) qk7 ?_
      refine Go.iconst (1 : Int32) 11 rfl dX7_answers_10 ci_1 ?_
      obtain ⟨g11, hf⟩ := f_grd hf
      refine Go.iald 12 rfl dX7_answers_11 (isT_lt hk7) (isT_sh hk7) g11 ?_
      refine Go.icmp_ge 40 15 rfl dX7_answers_12 rfl (fun hc => ?_) (fun hc => ?_)
      · replace hf := f_if hf hc
        exact Go.sub [2] [(2, .int l5_2)] rfl (J40 l5_2 hf)
      · replace hf := f_el hf hc
        refine Go.aload_n 0 16 rfl dX7_answers_15 rfl ?_
        refine Go.getR 19 rfl dX7_answers_16 fl_X7_22 rfl (isT_lt ha0) (isT_sh ha0) qk7 ?_
        refine Go.bipush (66 : Int32) 21 rfl dX7_answers_19 cb_66 ?_
        refine Go.iload_n 3 22 rfl dX7_answers_21 rfl ?_
        refine Go.iadd 23 rfl dX7_answers_22 ?_
        obtain ⟨g23, hf⟩ := f_grd hf
        refine Go.iald 24 rfl dX7_answers_23 (isT_lt hk7) (isT_sh hk7) g23 ?_
        refine Go.iload_n 1 25 rfl dX7_answers_24 rfl ?_
        obtain ⟨K33, eK33, hf⟩ := f_jn hf
        have J33 : ∀ (j33s0 : Int32), K33 j33s0 = some r → GoM G l 1 (TmR G (some (.int r)) 97 S 0 0) mX7_answers 33 [(0, .ref a0), (1, .int a1), (3, .int l5_3)] [.int j33s0] S := by
          intro j33s0 hf
          rw [eK33] at hf
          refine Go.istore_n 34 [(2, .int j33s0), (0, .ref a0), (1, .int a1), (3, .int l5_3)] rfl dX7_answers_33 (by decide) rfl ?_
          refine Go.inc 3 37 (1 : Int32) [(3, .int (l5_3 + (1 : Int32))), (2, .int j33s0), (0, .ref a0), (1, .int a1)] rfl dX7_answers_34 rfl ci_1 (by decide) rfl ?_
          refine Go.goto 5 dX7_answers_37 rfl ?_
          exact Go.sub [2, 3, 1, 0] [(0, .ref a0), (1, .int a1), (2, .int j33s0), (3, .int (l5_3 + (1 : Int32)))] rfl (ih j33s0 (l5_3 + (1 : Int32)) hf)
        clear eK33
        refine Go.icmp_ne 32 28 rfl dX7_answers_25 rfl (fun hc => ?_) (fun hc => ?_)
        · replace hf := f_el hf hc
          refine Go.iload_n 2 33 rfl dX7_answers_32 rfl ?_
          exact Go.sub [0, 1, 3] [(0, .ref a0), (1, .int a1), (3, .int l5_3)] rfl (J33 l5_2 hf)
        · replace hf := f_if hf hc
          refine Go.iload_n 3 29 rfl dX7_answers_28 rfl ?_
          refine Go.goto 33 dX7_answers_29 rfl ?_
          exact Go.sub [0, 1, 3] [(0, .ref a0), (1, .int a1), (3, .int l5_3)] rfl (J33 l5_3 hf)
  exact Go.sub [2, 3, 1, 0] [(0, .ref a0), (1, .int a1), (2, .int (-9 : Int32)), (3, .int (0 : Int32))] rfl (L5 n (-9 : Int32) (0 : Int32) hf)
