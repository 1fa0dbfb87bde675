/-! written by program: X7_toldCard X7_card X7_question X7_mark X7_puts X7_shelve X7_age X7_truth X7_fits X7_isFreeCard X7_isFree X7_takesIt X7_stands X7_take X7_bring -/
theorem dX7_toldCard_0 : decode cX7_toldCard 0 = .ok (.iload_n 2, 1) := by decide +kernel
theorem dX7_toldCard_1 : decode cX7_toldCard 1 = .ok (.ifCond .ne 14, 3) := by decide +kernel
theorem dX7_toldCard_4 : decode cX7_toldCard 4 = .ok (.aload_n 0, 1) := by decide +kernel
theorem dX7_toldCard_5 : decode cX7_toldCard 5 = .ok (.getfield 22, 3) := by decide +kernel
theorem dX7_toldCard_8 : decode cX7_toldCard 8 = .ok (.iconst 3, 1) := by decide +kernel
theorem dX7_toldCard_9 : decode cX7_toldCard 9 = .ok (.iload_n 1, 1) := by decide +kernel
theorem dX7_toldCard_10 : decode cX7_toldCard 10 = .ok (.iadd, 1) := by decide +kernel
theorem dX7_toldCard_11 : decode cX7_toldCard 11 = .ok (.iaload, 1) := by decide +kernel
theorem dX7_toldCard_12 : decode cX7_toldCard 12 = .ok (.goto 72, 3) := by decide +kernel
theorem dX7_toldCard_15 : decode cX7_toldCard 15 = .ok (.iload_n 2, 1) := by decide +kernel
theorem dX7_toldCard_16 : decode cX7_toldCard 16 = .ok (.iconst 1, 1) := by decide +kernel
theorem dX7_toldCard_17 : decode cX7_toldCard 17 = .ok (.if_icmp .ne 15, 3) := by decide +kernel
theorem dX7_toldCard_20 : decode cX7_toldCard 20 = .ok (.aload_n 0, 1) := by decide +kernel
theorem dX7_toldCard_21 : decode cX7_toldCard 21 = .ok (.getfield 22, 3) := by decide +kernel
theorem dX7_toldCard_24 : decode cX7_toldCard 24 = .ok (.bipush 10, 2) := by decide +kernel
theorem dX7_toldCard_26 : decode cX7_toldCard 26 = .ok (.iload_n 1, 1) := by decide +kernel
theorem dX7_toldCard_27 : decode cX7_toldCard 27 = .ok (.iadd, 1) := by decide +kernel
theorem dX7_toldCard_28 : decode cX7_toldCard 28 = .ok (.iaload, 1) := by decide +kernel
theorem dX7_toldCard_29 : decode cX7_toldCard 29 = .ok (.goto 55, 3) := by decide +kernel
theorem dX7_toldCard_32 : decode cX7_toldCard 32 = .ok (.iload_n 2, 1) := by decide +kernel
theorem dX7_toldCard_33 : decode cX7_toldCard 33 = .ok (.iconst 2, 1) := by decide +kernel
theorem dX7_toldCard_34 : decode cX7_toldCard 34 = .ok (.if_icmp .ne 11, 3) := by decide +kernel
theorem dX7_toldCard_37 : decode cX7_toldCard 37 = .ok (.aload_n 0, 1) := by decide +kernel
theorem dX7_toldCard_38 : decode cX7_toldCard 38 = .ok (.iload_n 1, 1) := by decide +kernel
theorem dX7_toldCard_39 : decode cX7_toldCard 39 = .ok (.invokevirtual 120, 3) := by decide +kernel
theorem dX7_toldCard_42 : decode cX7_toldCard 42 = .ok (.goto 42, 3) := by decide +kernel
theorem dX7_toldCard_45 : decode cX7_toldCard 45 = .ok (.iload_n 2, 1) := by decide +kernel
theorem dX7_toldCard_46 : decode cX7_toldCard 46 = .ok (.iconst 3, 1) := by decide +kernel
theorem dX7_toldCard_47 : decode cX7_toldCard 47 = .ok (.if_icmp .ne 15, 3) := by decide +kernel
theorem dX7_toldCard_50 : decode cX7_toldCard 50 = .ok (.aload_n 0, 1) := by decide +kernel
theorem dX7_toldCard_51 : decode cX7_toldCard 51 = .ok (.getfield 22, 3) := by decide +kernel
theorem dX7_toldCard_54 : decode cX7_toldCard 54 = .ok (.bipush 17, 2) := by decide +kernel
theorem dX7_toldCard_56 : decode cX7_toldCard 56 = .ok (.iload_n 1, 1) := by decide +kernel
theorem dX7_toldCard_57 : decode cX7_toldCard 57 = .ok (.iadd, 1) := by decide +kernel
theorem dX7_toldCard_58 : decode cX7_toldCard 58 = .ok (.iaload, 1) := by decide +kernel
theorem dX7_toldCard_59 : decode cX7_toldCard 59 = .ok (.goto 25, 3) := by decide +kernel
theorem dX7_toldCard_62 : decode cX7_toldCard 62 = .ok (.iload_n 2, 1) := by decide +kernel
theorem dX7_toldCard_63 : decode cX7_toldCard 63 = .ok (.iconst 4, 1) := by decide +kernel
theorem dX7_toldCard_64 : decode cX7_toldCard 64 = .ok (.if_icmp .ne 15, 3) := by decide +kernel
theorem dX7_toldCard_67 : decode cX7_toldCard 67 = .ok (.aload_n 0, 1) := by decide +kernel
theorem dX7_toldCard_68 : decode cX7_toldCard 68 = .ok (.getfield 22, 3) := by decide +kernel
theorem dX7_toldCard_71 : decode cX7_toldCard 71 = .ok (.bipush 24, 2) := by decide +kernel
theorem dX7_toldCard_73 : decode cX7_toldCard 73 = .ok (.iload_n 1, 1) := by decide +kernel
theorem dX7_toldCard_74 : decode cX7_toldCard 74 = .ok (.iadd, 1) := by decide +kernel
theorem dX7_toldCard_75 : decode cX7_toldCard 75 = .ok (.iaload, 1) := by decide +kernel
theorem dX7_toldCard_76 : decode cX7_toldCard 76 = .ok (.goto 8, 3) := by decide +kernel
theorem dX7_toldCard_79 : decode cX7_toldCard 79 = .ok (.aload_n 0, 1) := by decide +kernel
theorem dX7_toldCard_80 : decode cX7_toldCard 80 = .ok (.iload_n 1, 1) := by decide +kernel
theorem dX7_toldCard_81 : decode cX7_toldCard 81 = .ok (.invokevirtual 126, 3) := by decide +kernel
theorem dX7_toldCard_84 : decode cX7_toldCard 84 = .ok (.ireturn, 1) := by decide +kernel
def F_X7_toldCard (n : Nat) (S : aSt) (a0 : Nat) (a1 : Int32) (a2 : Int32) : Option Int32 :=
if a2 = 0 then (rfd (S.2.2 a0 4) 7 fun k5 =>
grd (inb ((3 : Int32) + a1) (SH k5).2) <|
some (S.1 k5 ((3 : Int32) + a1).toNatClampNeg)) else
if a2 = (1 : Int32) then (rfd (S.2.2 a0 4) 7 fun k21 =>
grd (inb ((10 : Int32) + a1) (SH k21).2) <|
some (S.1 k21 ((10 : Int32) + a1).toNatClampNeg)) else
if a2 = (2 : Int32) then ((F_X7_means n S a0 a1).bind fun r39 =>
some r39) else
if a2 = (3 : Int32) then (rfd (S.2.2 a0 4) 7 fun k51 =>
grd (inb ((17 : Int32) + a1) (SH k51).2) <|
some (S.1 k51 ((17 : Int32) + a1).toNatClampNeg)) else
if a2 = (4 : Int32) then (rfd (S.2.2 a0 4) 7 fun k68 =>
grd (inb ((24 : Int32) + a1) (SH k68).2) <|
some (S.1 k68 ((24 : Int32) + a1).toNatClampNeg)) else
(F_X7_answers n S a0 a1).bind fun r81 =>
some r81
set_option maxHeartbeats 4000000 in
set_option maxRecDepth 100000 in
theorem C_X7_toldCard (G : aG) (l : Launch) (n : Nat) (S : aSt) (a0 : Nat) (a1 : Int32) (a2 : Int32) (r : Int32) (ha0 : isT a0 6 = true) (hf : F_X7_toldCard n S a0 a1 a2 = some r) : Ctr G l yX7_toldCard mX7_toldCard (rmM 2) 97 97 S [.ref a0, .int a1, .int a2] (some (.int r)) S := by
  refine Ctr.of (by decide) rfl rfl (Nat.le_of_ble_eq_true rfl) [(0, .ref a0), (1, .int a1), (2, .int a2)] rfl ?_
  unfold F_X7_toldCard at hf
  refine Go.iload_n 2 1 rfl dX7_toldCard_0 rfl ?_
  refine Go.if_ne 15 4 rfl dX7_toldCard_1 rfl (fun hc => ?_) (fun hc => ?_)
  · replace hf := f_el hf hc
    refine Go.iload_n 2 16 rfl dX7_toldCard_15 rfl ?_
    refine Go.iconst (1 : Int32) 17 rfl dX7_toldCard_16 ci_1 ?_
    refine Go.icmp_ne 32 20 rfl dX7_toldCard_17 rfl (fun hc => ?_) (fun hc => ?_)
    · replace hf := f_el hf hc
      refine Go.iload_n 2 33 rfl dX7_toldCard_32 rfl ?_
      refine Go.iconst (2 : Int32) 34 rfl dX7_toldCard_33 ci_2 ?_
      refine Go.icmp_ne 45 37 rfl dX7_toldCard_34 rfl (fun hc => ?_) (fun hc => ?_)
      · replace hf := f_el hf hc
        refine Go.iload_n 2 46 rfl dX7_toldCard_45 rfl ?_
        refine Go.iconst (3 : Int32) 47 rfl dX7_toldCard_46 ci_3 ?_
        refine Go.icmp_ne 62 50 rfl dX7_toldCard_47 rfl (fun hc => ?_) (fun hc => ?_)
        · replace hf := f_el hf hc
          refine Go.iload_n 2 63 rfl dX7_toldCard_62 rfl ?_
          refine Go.iconst (4 : Int32) 64 rfl dX7_toldCard_63 ci_4 ?_
          refine Go.icmp_ne 79 67 rfl dX7_toldCard_64 rfl (fun hc => ?_) (fun hc => ?_)
          · replace hf := f_el hf hc
            refine Go.aload_n 0 80 rfl dX7_toldCard_79 rfl ?_
            refine Go.iload_n 1 81 rfl dX7_toldCard_80 rfl ?_
            obtain ⟨r81, er81, hf⟩ := f_bnd hf
            refine Go.cV 84 [.int a1] [] (C_X7_answers G l n S a0 a1 r81 ha0 er81) rfl dX7_toldCard_81 cv_X7_126 ha0 (by decide) (by decide) rfl (Nat.le_of_ble_eq_true rfl) ?_
            exact Go.ir rfl dX7_toldCard_84 hf
          · replace hf := f_if hf hc
            refine Go.aload_n 0 68 rfl dX7_toldCard_67 rfl ?_
            obtain ⟨k68, qk68, hk68, hf⟩ := f_rfd hf
            refine Go.getR 71 rfl dX7_toldCard_68 fl_X7_22 rfl (isT_lt ha0) (isT_sh ha0) qk68 ?_
            refine Go.bipush (24 : Int32) 73 rfl dX7_toldCard_71 cb_24 ?_
            refine Go.iload_n 1 74 rfl dX7_toldCard_73 rfl ?_
            refine Go.iadd 75 rfl dX7_toldCard_74 ?_
            obtain ⟨g75, hf⟩ := f_grd hf
            refine Go.iald 76 rfl dX7_toldCard_75 (isT_lt hk68) (isT_sh hk68) g75 ?_
            refine Go.goto 84 dX7_toldCard_76 rfl ?_
            exact Go.ir rfl dX7_toldCard_84 hf
        · replace hf := f_if hf hc
          refine Go.aload_n 0 51 rfl dX7_toldCard_50 rfl ?_
          obtain ⟨k51, qk51, hk51, hf⟩ := f_rfd hf
          refine Go.getR 54 rfl dX7_toldCard_51 fl_X7_22 rfl (isT_lt ha0) (isT_sh ha0) qk51 ?_
          refine Go.bipush (17 : Int32) 56 rfl dX7_toldCard_54 cb_17 ?_
          refine Go.iload_n 1 57 rfl dX7_toldCard_56 rfl ?_
          refine Go.iadd 58 rfl dX7_toldCard_57 ?_
          obtain ⟨g58, hf⟩ := f_grd hf
          refine Go.iald 59 rfl dX7_toldCard_58 (isT_lt hk51) (isT_sh hk51) g58 ?_
          refine Go.goto 84 dX7_toldCard_59 rfl ?_
          exact Go.ir rfl dX7_toldCard_84 hf
      · replace hf := f_if hf hc
        refine Go.aload_n 0 38 rfl dX7_toldCard_37 rfl ?_
        refine Go.iload_n 1 39 rfl dX7_toldCard_38 rfl ?_
        obtain ⟨r39, er39, hf⟩ := f_bnd hf
        refine Go.cV 42 [.int a1] [] (C_X7_means G l n S a0 a1 r39 ha0 er39) rfl dX7_toldCard_39 cv_X7_120 ha0 (by decide) (by decide) rfl (Nat.le_of_ble_eq_true rfl) ?_
        refine Go.goto 84 dX7_toldCard_42 rfl ?_
        exact Go.ir rfl dX7_toldCard_84 hf
    · replace hf := f_if hf hc
      refine Go.aload_n 0 21 rfl dX7_toldCard_20 rfl ?_
      obtain ⟨k21, qk21, hk21, hf⟩ := f_rfd hf
      refine Go.getR 24 rfl dX7_toldCard_21 fl_X7_22 rfl (isT_lt ha0) (isT_sh ha0) qk21 ?_
      refine Go.bipush (10 : Int32) 26 rfl dX7_toldCard_24 cb_10 ?_
      refine Go.iload_n 1 27 rfl dX7_toldCard_26 rfl ?_
      refine Go.iadd 28 rfl dX7_toldCard_27 ?_
      obtain ⟨g28, hf⟩ := f_grd hf
      refine Go.iald 29 rfl dX7_toldCard_28 (isT_lt hk21) (isT_sh hk21) g28 ?_
      refine Go.goto 84 dX7_toldCard_29 rfl ?_
      exact Go.ir rfl dX7_toldCard_84 hf
  · replace hf := f_if hf hc
    refine Go.aload_n 0 5 rfl dX7_toldCard_4 rfl ?_
    obtain ⟨k5, qk5, hk5, hf⟩ := f_rfd hf
    refine Go.getR 8 rfl dX7_toldCard_5 fl_X7_22 rfl (isT_lt ha0) (isT_sh ha0) qk5 ?_
    refine Go.iconst (3 : Int32) 9 rfl dX7_toldCard_8 ci_3 ?_
    refine Go.iload_n 1 10 rfl dX7_toldCard_9 rfl ?_
    refine Go.iadd 11 rfl dX7_toldCard_10 ?_
    obtain ⟨g11, hf⟩ := f_grd hf
    refine Go.iald 12 rfl dX7_toldCard_11 (isT_lt hk5) (isT_sh hk5) g11 ?_
    refine Go.goto 84 dX7_toldCard_12 rfl ?_
    exact Go.ir rfl dX7_toldCard_84 hf
theorem dX7_card_0 : decode cX7_card 0 = .ok (.aload_n 0, 1) := by decide +kernel
theorem dX7_card_1 : decode cX7_card 1 = .ok (.iload_n 1, 1) := by decide +kernel
theorem dX7_card_2 : decode cX7_card 2 = .ok (.invokevirtual 129, 3) := by decide +kernel
theorem dX7_card_5 : decode cX7_card 5 = .ok (.ifCond .eq 28, 3) := by decide +kernel
theorem dX7_card_8 : decode cX7_card 8 = .ok (.iload_n 2, 1) := by decide +kernel
theorem dX7_card_9 : decode cX7_card 9 = .ok (.i2l, 1) := by decide +kernel
theorem dX7_card_10 : decode cX7_card 10 = .ok (.lconst 0, 1) := by decide +kernel
theorem dX7_card_11 : decode cX7_card 11 = .ok (.ldc2_w 64, 3) := by decide +kernel
theorem dX7_card_14 : decode cX7_card 14 = .ok (.invokestatic 66, 3) := by decide +kernel
theorem dX7_card_17 : decode cX7_card 17 = .ok (.ifCond .eq 16, 3) := by decide +kernel
theorem dX7_card_20 : decode cX7_card 20 = .ok (.aload_n 0, 1) := by decide +kernel
theorem dX7_card_21 : decode cX7_card 21 = .ok (.aload_n 0, 1) := by decide +kernel
theorem dX7_card_22 : decode cX7_card 22 = .ok (.iload_n 1, 1) := by decide +kernel
theorem dX7_card_23 : decode cX7_card 23 = .ok (.iload_n 2, 1) := by decide +kernel
theorem dX7_card_24 : decode cX7_card 24 = .ok (.invokevirtual 132, 3) := by decide +kernel
theorem dX7_card_27 : decode cX7_card 27 = .ok (.invokevirtual 80, 3) := by decide +kernel
theorem dX7_card_30 : decode cX7_card 30 = .ok (.goto 4, 3) := by decide +kernel
theorem dX7_card_33 : decode cX7_card 33 = .ok (.iconst (-1), 1) := by decide +kernel
theorem dX7_card_34 : decode cX7_card 34 = .ok (.ireturn, 1) := by decide +kernel
def F_X7_card (n : Nat) (S : aSt) (a0 : Nat) (a1 : Int32) (a2 : Int32) : Option (Int32 × aSt) :=
(F_X7_isCard n S a0 a1).bind fun r2 =>
if r2 = 0 then (some ((-1 : Int32), S)) else
(F_X7_in n S a2.toInt64 (0 : Int64) (5 : Int64)).bind fun r14 =>
if r14 = 0 then (some ((-1 : Int32), S)) else
(F_X7_toldCard n S a0 a1 a2).bind fun r24 =>
bn2 (F_X7_tell n S a0 r24) fun r27 S27 =>
some (r27, S27)
set_option maxHeartbeats 4000000 in
set_option maxRecDepth 100000 in
theorem C_X7_card (G : aG) (l : Launch) (n : Nat) (S : aSt) (a0 : Nat) (a1 : Int32) (a2 : Int32) (r : Int32) (Sr : aSt) (ha0 : isT a0 6 = true) (hf : F_X7_card n S a0 a1 a2 = some (r, Sr)) : Ctr G l yX7_card mX7_card (rmM 3) 97 97 S [.ref a0, .int a1, .int a2] (some (.int r)) Sr := by
  refine Ctr.of (by decide) rfl rfl (Nat.le_of_ble_eq_true rfl) [(0, .ref a0), (1, .int a1), (2, .int a2)] rfl ?_
  unfold F_X7_card at hf
  refine Go.aload_n 0 1 rfl dX7_card_0 rfl ?_
  refine Go.iload_n 1 2 rfl dX7_card_1 rfl ?_
  obtain ⟨r2, er2, hf⟩ := f_bnd hf
  refine Go.cV 5 [.int a1] [] (C_X7_isCard G l n S a0 a1 r2 ha0 er2) rfl dX7_card_2 cv_X7_129 ha0 (by decide) (by decide) rfl (Nat.le_of_ble_eq_true rfl) ?_
  refine Go.if_eq 33 8 rfl dX7_card_5 rfl (fun hc => ?_) (fun hc => ?_)
  · replace hf := f_if hf hc
    refine Go.iconst (-1 : Int32) 34 rfl dX7_card_33 ci_m1 ?_
    exact Go.irS rfl dX7_card_34 hf
  · replace hf := f_el hf hc
    refine Go.iload_n 2 9 rfl dX7_card_8 rfl ?_
    refine Go.i2l 10 rfl dX7_card_9 ?_
    refine Go.lconst (0 : Int64) 11 rfl dX7_card_10 cl_0 ?_
    refine Go.ldc2 (5 : Int64) 14 rfl dX7_card_11 (am_mem 910 (by decide +kernel) rfl) ?_
    obtain ⟨r14, er14, hf⟩ := f_bnd hf
    refine Go.cS 17 [.long a2.toInt64, .long (0 : Int64), .long (5 : Int64)] [] (C_X7_in G l n S a2.toInt64 (0 : Int64) (5 : Int64) r14  er14) rfl dX7_card_14 cx_X7_66 (by decide) (by decide) rfl (Nat.le_of_ble_eq_true rfl) ?_
    refine Go.if_eq 33 20 rfl dX7_card_17 rfl (fun hc => ?_) (fun hc => ?_)
    · replace hf := f_if hf hc
      refine Go.iconst (-1 : Int32) 34 rfl dX7_card_33 ci_m1 ?_
      exact Go.irS rfl dX7_card_34 hf
    · replace hf := f_el hf hc
      refine Go.aload_n 0 21 rfl dX7_card_20 rfl ?_
      refine Go.aload_n 0 22 rfl dX7_card_21 rfl ?_
      refine Go.iload_n 1 23 rfl dX7_card_22 rfl ?_
      refine Go.iload_n 2 24 rfl dX7_card_23 rfl ?_
      obtain ⟨r24, er24, hf⟩ := f_bnd hf
      refine Go.cV 27 [.int a1, .int a2] [.ref a0] (C_X7_toldCard G l n S a0 a1 a2 r24 ha0 er24) rfl dX7_card_24 cv_X7_132 ha0 (by decide) (by decide) rfl (Nat.le_of_ble_eq_true rfl) ?_
      obtain ⟨r27, S27, er27, hf⟩ := f_bn2 hf
      refine Go.cV 30 [.int r24] [] (C_X7_tell G l n S a0 r24 r27 S27 ha0 er27) rfl dX7_card_27 cv_X7_80 ha0 (by decide) (by decide) rfl (Nat.le_of_ble_eq_true rfl) ?_
      refine Go.goto 34 dX7_card_30 rfl ?_
      exact Go.irS rfl dX7_card_34 hf
theorem dX7_question_0 : decode cX7_question 0 = .ok (.aload_n 0, 1) := by decide +kernel
theorem dX7_question_1 : decode cX7_question 1 = .ok (.iload_n 1, 1) := by decide +kernel
theorem dX7_question_2 : decode cX7_question 2 = .ok (.invokevirtual 136, 3) := by decide +kernel
theorem dX7_question_5 : decode cX7_question 5 = .ok (.ifCond .eq 36, 3) := by decide +kernel
theorem dX7_question_8 : decode cX7_question 8 = .ok (.iload_n 2, 1) := by decide +kernel
theorem dX7_question_9 : decode cX7_question 9 = .ok (.i2l, 1) := by decide +kernel
theorem dX7_question_10 : decode cX7_question 10 = .ok (.lconst 0, 1) := by decide +kernel
theorem dX7_question_11 : decode cX7_question 11 = .ok (.ldc2_w 64, 3) := by decide +kernel
theorem dX7_question_14 : decode cX7_question 14 = .ok (.invokestatic 66, 3) := by decide +kernel
theorem dX7_question_17 : decode cX7_question 17 = .ok (.ifCond .eq 24, 3) := by decide +kernel
theorem dX7_question_20 : decode cX7_question 20 = .ok (.aload_n 0, 1) := by decide +kernel
theorem dX7_question_21 : decode cX7_question 21 = .ok (.aload_n 0, 1) := by decide +kernel
theorem dX7_question_22 : decode cX7_question 22 = .ok (.getfield 22, 3) := by decide +kernel
theorem dX7_question_25 : decode cX7_question 25 = .ok (.bipush 31, 2) := by decide +kernel
theorem dX7_question_27 : decode cX7_question 27 = .ok (.bipush 7, 2) := by decide +kernel
theorem dX7_question_29 : decode cX7_question 29 = .ok (.iload_n 2, 1) := by decide +kernel
theorem dX7_question_30 : decode cX7_question 30 = .ok (.imul, 1) := by decide +kernel
theorem dX7_question_31 : decode cX7_question 31 = .ok (.iadd, 1) := by decide +kernel
theorem dX7_question_32 : decode cX7_question 32 = .ok (.iload_n 1, 1) := by decide +kernel
theorem dX7_question_33 : decode cX7_question 33 = .ok (.iadd, 1) := by decide +kernel
theorem dX7_question_34 : decode cX7_question 34 = .ok (.iaload, 1) := by decide +kernel
theorem dX7_question_35 : decode cX7_question 35 = .ok (.invokevirtual 80, 3) := by decide +kernel
theorem dX7_question_38 : decode cX7_question 38 = .ok (.goto 4, 3) := by decide +kernel
theorem dX7_question_41 : decode cX7_question 41 = .ok (.iconst (-1), 1) := by decide +kernel
theorem dX7_question_42 : decode cX7_question 42 = .ok (.ireturn, 1) := by decide +kernel
def F_X7_question (n : Nat) (S : aSt) (a0 : Nat) (a1 : Int32) (a2 : Int32) : Option (Int32 × aSt) :=
(F_X7_isQuestion n S a0 a1).bind fun r2 =>
if r2 = 0 then (some ((-1 : Int32), S)) else
(F_X7_in n S a2.toInt64 (0 : Int64) (5 : Int64)).bind fun r14 =>
if r14 = 0 then (some ((-1 : Int32), S)) else
rfd (S.2.2 a0 4) 7 fun k22 =>
grd (inb (((31 : Int32) + ((7 : Int32) * a2)) + a1) (SH k22).2) <|
bn2 (F_X7_tell n S a0 (S.1 k22 (((31 : Int32) + ((7 : Int32) * a2)) + a1).toNatClampNeg)) fun r35 S35 =>
some (r35, S35)
set_option maxHeartbeats 4000000 in
set_option maxRecDepth 100000 in
theorem C_X7_question (G : aG) (l : Launch) (n : Nat) (S : aSt) (a0 : Nat) (a1 : Int32) (a2 : Int32) (r : Int32) (Sr : aSt) (ha0 : isT a0 6 = true) (hf : F_X7_question n S a0 a1 a2 = some (r, Sr)) : Ctr G l yX7_question mX7_question (rmM 3) 97 97 S [.ref a0, .int a1, .int a2] (some (.int r)) Sr := by
  refine Ctr.of (by decide) rfl rfl (Nat.le_of_ble_eq_true rfl) [(0, .ref a0), (1, .int a1), (2, .int a2)] rfl ?_
  unfold F_X7_question at hf
  refine Go.aload_n 0 1 rfl dX7_question_0 rfl ?_
  refine Go.iload_n 1 2 rfl dX7_question_1 rfl ?_
  obtain ⟨r2, er2, hf⟩ := f_bnd hf
  refine Go.cV 5 [.int a1] [] (C_X7_isQuestion G l n S a0 a1 r2 ha0 er2) rfl dX7_question_2 cv_X7_136 ha0 (by decide) (by decide) rfl (Nat.le_of_ble_eq_true rfl) ?_
  refine Go.if_eq 41 8 rfl dX7_question_5 rfl (fun hc => ?_) (fun hc => ?_)
  · replace hf := f_if hf hc
    refine Go.iconst (-1 : Int32) 42 rfl dX7_question_41 ci_m1 ?_
    exact Go.irS rfl dX7_question_42 hf
  · replace hf := f_el hf hc
    refine Go.iload_n 2 9 rfl dX7_question_8 rfl ?_
    refine Go.i2l 10 rfl dX7_question_9 ?_
    refine Go.lconst (0 : Int64) 11 rfl dX7_question_10 cl_0 ?_
    refine Go.ldc2 (5 : Int64) 14 rfl dX7_question_11 (am_mem 910 (by decide +kernel) rfl) ?_
    obtain ⟨r14, er14, hf⟩ := f_bnd hf
    refine Go.cS 17 [.long a2.toInt64, .long (0 : Int64), .long (5 : Int64)] [] (C_X7_in G l n S a2.toInt64 (0 : Int64) (5 : Int64) r14  er14) rfl dX7_question_14 cx_X7_66 (by decide) (by decide) rfl (Nat.le_of_ble_eq_true rfl) ?_
    refine Go.if_eq 41 20 rfl dX7_question_17 rfl (fun hc => ?_) (fun hc => ?_)
    · replace hf := f_if hf hc
      refine Go.iconst (-1 : Int32) 42 rfl dX7_question_41 ci_m1 ?_
      exact Go.irS rfl dX7_question_42 hf
    · replace hf := f_el hf hc
      refine Go.aload_n 0 21 rfl dX7_question_20 rfl ?_
      refine Go.aload_n 0 22 rfl dX7_question_21 rfl ?_
      obtain ⟨k22, qk22, hk22, hf⟩ := f_rfd hf
      refine Go.getR 25 rfl dX7_question_22 fl_X7_22 rfl (isT_lt ha0) (isT_sh ha0) qk22 ?_
      refine Go.bipush (31 : Int32) 27 rfl dX7_question_25 cb_31 ?_
      refine Go.bipush (7 : Int32) 29 rfl dX7_question_27 cb_7 ?_
      refine Go.iload_n 2 30 rfl dX7_question_29 rfl ?_
      refine Go.imul 31 rfl dX7_question_30 ?_
      refine Go.iadd 32 rfl dX7_question_31 ?_
      refine Go.iload_n 1 33 rfl dX7_question_32 rfl ?_
      refine Go.iadd 34 rfl dX7_question_33 ?_
      obtain ⟨g34, hf⟩ := f_grd hf
      refine Go.iald 35 rfl dX7_question_34 (isT_lt hk22) (isT_sh hk22) g34 ?_
      obtain ⟨r35, S35, er35, hf⟩ := f_bn2 hf
      refine Go.cV 38 [.int (S.1 k22 (((31 : Int32) + ((7 : Int32) * a2)) + a1).toNatClampNeg)] [] (C_X7_tell G l n S a0 (S.1 k22 (((31 : Int32) + ((7 : Int32) * a2)) + a1).toNatClampNeg) r35 S35 ha0 er35) rfl dX7_question_35 cv_X7_80 ha0 (by decide) (by decide) rfl (Nat.le_of_ble_eq_true rfl) ?_
      refine Go.goto 42 dX7_question_38 rfl ?_
      exact Go.irS rfl dX7_question_42 hf
theorem dX7_mark_0 : decode cX7_mark 0 = .ok (.aload_n 0, 1) := by decide +kernel
theorem dX7_mark_1 : decode cX7_mark 1 = .ok (.iload_n 1, 1) := by decide +kernel
theorem dX7_mark_2 : decode cX7_mark 2 = .ok (.invokevirtual 129, 3) := by decide +kernel
theorem dX7_mark_5 : decode cX7_mark 5 = .ok (.ifCond .eq 15, 3) := by decide +kernel
theorem dX7_mark_8 : decode cX7_mark 8 = .ok (.iload_n 2, 1) := by decide +kernel
theorem dX7_mark_9 : decode cX7_mark 9 = .ok (.i2l, 1) := by decide +kernel
theorem dX7_mark_10 : decode cX7_mark 10 = .ok (.lconst 1, 1) := by decide +kernel
theorem dX7_mark_11 : decode cX7_mark 11 = .ok (.ldc2_w 64, 3) := by decide +kernel
theorem dX7_mark_14 : decode cX7_mark 14 = .ok (.invokestatic 66, 3) := by decide +kernel
theorem dX7_mark_17 : decode cX7_mark 17 = .ok (.ifCond .ne 5, 3) := by decide +kernel
theorem dX7_mark_20 : decode cX7_mark 20 = .ok (.iconst (-1), 1) := by decide +kernel
theorem dX7_mark_21 : decode cX7_mark 21 = .ok (.ireturn, 1) := by decide +kernel
theorem dX7_mark_22 : decode cX7_mark 22 = .ok (.aload_n 0, 1) := by decide +kernel
theorem dX7_mark_23 : decode cX7_mark 23 = .ok (.getfield 22, 3) := by decide +kernel
theorem dX7_mark_26 : decode cX7_mark 26 = .ok (.iconst 3, 1) := by decide +kernel
theorem dX7_mark_27 : decode cX7_mark 27 = .ok (.iload_n 1, 1) := by decide +kernel
theorem dX7_mark_28 : decode cX7_mark 28 = .ok (.iadd, 1) := by decide +kernel
theorem dX7_mark_29 : decode cX7_mark 29 = .ok (.iaload, 1) := by decide +kernel
theorem dX7_mark_30 : decode cX7_mark 30 = .ok (.iload_n 2, 1) := by decide +kernel
theorem dX7_mark_31 : decode cX7_mark 31 = .ok (.invokestatic 116, 3) := by decide +kernel
theorem dX7_mark_34 : decode cX7_mark 34 = .ok (.ifCond .ne 9, 3) := by decide +kernel
theorem dX7_mark_37 : decode cX7_mark 37 = .ok (.aload_n 0, 1) := by decide +kernel
theorem dX7_mark_38 : decode cX7_mark 38 = .ok (.iconst 3, 1) := by decide +kernel
theorem dX7_mark_39 : decode cX7_mark 39 = .ok (.invokevirtual 76, 3) := by decide +kernel
theorem dX7_mark_42 : decode cX7_mark 42 = .ok (.ireturn, 1) := by decide +kernel
theorem dX7_mark_43 : decode cX7_mark 43 = .ok (.iload_n 2, 1) := by decide +kernel
theorem dX7_mark_44 : decode cX7_mark 44 = .ok (.iconst 4, 1) := by decide +kernel
theorem dX7_mark_45 : decode cX7_mark 45 = .ok (.if_icmp .ne 22, 3) := by decide +kernel
theorem dX7_mark_48 : decode cX7_mark 48 = .ok (.aload_n 0, 1) := by decide +kernel
theorem dX7_mark_49 : decode cX7_mark 49 = .ok (.iload_n 1, 1) := by decide +kernel
theorem dX7_mark_50 : decode cX7_mark 50 = .ok (.invokevirtual 120, 3) := by decide +kernel
theorem dX7_mark_53 : decode cX7_mark 53 = .ok (.aload_n 0, 1) := by decide +kernel
theorem dX7_mark_54 : decode cX7_mark 54 = .ok (.getfield 22, 3) := by decide +kernel
theorem dX7_mark_57 : decode cX7_mark 57 = .ok (.bipush 10, 2) := by decide +kernel
theorem dX7_mark_59 : decode cX7_mark 59 = .ok (.iload_n 1, 1) := by decide +kernel
theorem dX7_mark_60 : decode cX7_mark 60 = .ok (.iadd, 1) := by decide +kernel
theorem dX7_mark_61 : decode cX7_mark 61 = .ok (.iaload, 1) := by decide +kernel
theorem dX7_mark_62 : decode cX7_mark 62 = .ok (.isub, 1) := by decide +kernel
theorem dX7_mark_63 : decode cX7_mark 63 = .ok (.bipush 10, 2) := by decide +kernel
theorem dX7_mark_65 : decode cX7_mark 65 = .ok (.iadd, 1) := by decide +kernel
theorem dX7_mark_66 : decode cX7_mark 66 = .ok (.ireturn, 1) := by decide +kernel
theorem dX7_mark_67 : decode cX7_mark 67 = .ok (.iconst 0, 1) := by decide +kernel
theorem dX7_mark_68 : decode cX7_mark 68 = .ok (.istore_n 3, 1) := by decide +kernel
theorem dX7_mark_69 : decode cX7_mark 69 = .ok (.iconst 0, 1) := by decide +kernel
theorem dX7_mark_70 : decode cX7_mark 70 = .ok (.istore 4, 2) := by decide +kernel
theorem dX7_mark_72 : decode cX7_mark 72 = .ok (.iload 4, 2) := by decide +kernel
theorem dX7_mark_74 : decode cX7_mark 74 = .ok (.bipush 7, 2) := by decide +kernel
theorem dX7_mark_76 : decode cX7_mark 76 = .ok (.if_icmp .ge 202, 3) := by decide +kernel
theorem dX7_mark_79 : decode cX7_mark 79 = .ok (.iload_n 2, 1) := by decide +kernel
theorem dX7_mark_80 : decode cX7_mark 80 = .ok (.iconst 3, 1) := by decide +kernel
theorem dX7_mark_81 : decode cX7_mark 81 = .ok (.if_icmp .ne 30, 3) := by decide +kernel
theorem dX7_mark_84 : decode cX7_mark 84 = .ok (.aload_n 0, 1) := by decide +kernel
theorem dX7_mark_85 : decode cX7_mark 85 = .ok (.iload 4, 2) := by decide +kernel
theorem dX7_mark_87 : decode cX7_mark 87 = .ok (.invokevirtual 136, 3) := by decide +kernel
theorem dX7_mark_90 : decode cX7_mark 90 = .ok (.ifCond .eq 17, 3) := by decide +kernel
theorem dX7_mark_93 : decode cX7_mark 93 = .ok (.aload_n 0, 1) := by decide +kernel
theorem dX7_mark_94 : decode cX7_mark 94 = .ok (.iload 4, 2) := by decide +kernel
theorem dX7_mark_96 : decode cX7_mark 96 = .ok (.iload_n 1, 1) := by decide +kernel
theorem dX7_mark_97 : decode cX7_mark 97 = .ok (.invokevirtual 139, 3) := by decide +kernel
theorem dX7_mark_100 : decode cX7_mark 100 = .ok (.ifCond .eq 7, 3) := by decide +kernel
theorem dX7_mark_103 : decode cX7_mark 103 = .ok (.iconst 1, 1) := by decide +kernel
theorem dX7_mark_104 : decode cX7_mark 104 = .ok (.goto 13, 3) := by decide +kernel
theorem dX7_mark_107 : decode cX7_mark 107 = .ok (.iconst 0, 1) := by decide +kernel
theorem dX7_mark_108 : decode cX7_mark 108 = .ok (.goto 9, 3) := by decide +kernel
theorem dX7_mark_111 : decode cX7_mark 111 = .ok (.aload_n 0, 1) := by decide +kernel
theorem dX7_mark_112 : decode cX7_mark 112 = .ok (.iload 4, 2) := by decide +kernel
theorem dX7_mark_114 : decode cX7_mark 114 = .ok (.invokevirtual 129, 3) := by decide +kernel
theorem dX7_mark_117 : decode cX7_mark 117 = .ok (.istore 5, 2) := by decide +kernel
theorem dX7_mark_119 : decode cX7_mark 119 = .ok (.iload_n 2, 1) := by decide +kernel
theorem dX7_mark_120 : decode cX7_mark 120 = .ok (.iconst 1, 1) := by decide +kernel
theorem dX7_mark_121 : decode cX7_mark 121 = .ok (.if_icmp .ne 46, 3) := by decide +kernel
theorem dX7_mark_124 : decode cX7_mark 124 = .ok (.aload_n 0, 1) := by decide +kernel
theorem dX7_mark_125 : decode cX7_mark 125 = .ok (.getfield 22, 3) := by decide +kernel
theorem dX7_mark_128 : decode cX7_mark 128 = .ok (.iconst 3, 1) := by decide +kernel
theorem dX7_mark_129 : decode cX7_mark 129 = .ok (.iload 4, 2) := by decide +kernel
theorem dX7_mark_131 : decode cX7_mark 131 = .ok (.iadd, 1) := by decide +kernel
theorem dX7_mark_132 : decode cX7_mark 132 = .ok (.iaload, 1) := by decide +kernel
theorem dX7_mark_133 : decode cX7_mark 133 = .ok (.iconst 1, 1) := by decide +kernel
theorem dX7_mark_134 : decode cX7_mark 134 = .ok (.invokestatic 116, 3) := by decide +kernel
theorem dX7_mark_137 : decode cX7_mark 137 = .ok (.ifCond .eq 26, 3) := by decide +kernel
theorem dX7_mark_140 : decode cX7_mark 140 = .ok (.iload 5, 2) := by decide +kernel
theorem dX7_mark_142 : decode cX7_mark 142 = .ok (.ifCond .eq 21, 3) := by decide +kernel
theorem dX7_mark_145 : decode cX7_mark 145 = .ok (.aload_n 0, 1) := by decide +kernel
theorem dX7_mark_146 : decode cX7_mark 146 = .ok (.iload 4, 2) := by decide +kernel
theorem dX7_mark_148 : decode cX7_mark 148 = .ok (.invokevirtual 120, 3) := by decide +kernel
theorem dX7_mark_151 : decode cX7_mark 151 = .ok (.aload_n 0, 1) := by decide +kernel
theorem dX7_mark_152 : decode cX7_mark 152 = .ok (.iload_n 1, 1) := by decide +kernel
theorem dX7_mark_153 : decode cX7_mark 153 = .ok (.invokevirtual 120, 3) := by decide +kernel
theorem dX7_mark_156 : decode cX7_mark 156 = .ok (.if_icmp .ne 7, 3) := by decide +kernel
theorem dX7_mark_159 : decode cX7_mark 159 = .ok (.iconst 1, 1) := by decide +kernel
theorem dX7_mark_160 : decode cX7_mark 160 = .ok (.goto 92, 3) := by decide +kernel
theorem dX7_mark_163 : decode cX7_mark 163 = .ok (.iconst 0, 1) := by decide +kernel
theorem dX7_mark_164 : decode cX7_mark 164 = .ok (.goto 88, 3) := by decide +kernel
theorem dX7_mark_167 : decode cX7_mark 167 = .ok (.iload_n 2, 1) := by decide +kernel
theorem dX7_mark_168 : decode cX7_mark 168 = .ok (.iconst 2, 1) := by decide +kernel
theorem dX7_mark_169 : decode cX7_mark 169 = .ok (.if_icmp .ne 39, 3) := by decide +kernel
theorem dX7_mark_172 : decode cX7_mark 172 = .ok (.iload 4, 2) := by decide +kernel
theorem dX7_mark_174 : decode cX7_mark 174 = .ok (.iload_n 1, 1) := by decide +kernel
theorem dX7_mark_175 : decode cX7_mark 175 = .ok (.if_icmp .eq 29, 3) := by decide +kernel
theorem dX7_mark_178 : decode cX7_mark 178 = .ok (.aload_n 0, 1) := by decide +kernel
theorem dX7_mark_179 : decode cX7_mark 179 = .ok (.getfield 22, 3) := by decide +kernel
theorem dX7_mark_182 : decode cX7_mark 182 = .ok (.bipush 17, 2) := by decide +kernel
theorem dX7_mark_184 : decode cX7_mark 184 = .ok (.iload 4, 2) := by decide +kernel
theorem dX7_mark_186 : decode cX7_mark 186 = .ok (.iadd, 1) := by decide +kernel
theorem dX7_mark_187 : decode cX7_mark 187 = .ok (.iaload, 1) := by decide +kernel
theorem dX7_mark_188 : decode cX7_mark 188 = .ok (.aload_n 0, 1) := by decide +kernel
theorem dX7_mark_189 : decode cX7_mark 189 = .ok (.getfield 22, 3) := by decide +kernel
theorem dX7_mark_192 : decode cX7_mark 192 = .ok (.bipush 17, 2) := by decide +kernel
theorem dX7_mark_194 : decode cX7_mark 194 = .ok (.iload_n 1, 1) := by decide +kernel
theorem dX7_mark_195 : decode cX7_mark 195 = .ok (.iadd, 1) := by decide +kernel
theorem dX7_mark_196 : decode cX7_mark 196 = .ok (.iaload, 1) := by decide +kernel
theorem dX7_mark_197 : decode cX7_mark 197 = .ok (.if_icmp .ne 7, 3) := by decide +kernel
theorem dX7_mark_200 : decode cX7_mark 200 = .ok (.iconst 1, 1) := by decide +kernel
theorem dX7_mark_201 : decode cX7_mark 201 = .ok (.goto 51, 3) := by decide +kernel
theorem dX7_mark_204 : decode cX7_mark 204 = .ok (.iconst 0, 1) := by decide +kernel
theorem dX7_mark_205 : decode cX7_mark 205 = .ok (.goto 47, 3) := by decide +kernel
theorem dX7_mark_208 : decode cX7_mark 208 = .ok (.iload_n 2, 1) := by decide +kernel
theorem dX7_mark_209 : decode cX7_mark 209 = .ok (.iconst 5, 1) := by decide +kernel
theorem dX7_mark_210 : decode cX7_mark 210 = .ok (.if_icmp .ne 37, 3) := by decide +kernel
theorem dX7_mark_213 : decode cX7_mark 213 = .ok (.aload_n 0, 1) := by decide +kernel
theorem dX7_mark_214 : decode cX7_mark 214 = .ok (.getfield 22, 3) := by decide +kernel
theorem dX7_mark_217 : decode cX7_mark 217 = .ok (.iconst 3, 1) := by decide +kernel
theorem dX7_mark_218 : decode cX7_mark 218 = .ok (.iload 4, 2) := by decide +kernel
theorem dX7_mark_220 : decode cX7_mark 220 = .ok (.iadd, 1) := by decide +kernel
theorem dX7_mark_221 : decode cX7_mark 221 = .ok (.iaload, 1) := by decide +kernel
theorem dX7_mark_222 : decode cX7_mark 222 = .ok (.iconst 2, 1) := by decide +kernel
theorem dX7_mark_223 : decode cX7_mark 223 = .ok (.invokestatic 116, 3) := by decide +kernel
theorem dX7_mark_226 : decode cX7_mark 226 = .ok (.ifCond .eq 25, 3) := by decide +kernel
theorem dX7_mark_229 : decode cX7_mark 229 = .ok (.aload_n 0, 1) := by decide +kernel
theorem dX7_mark_230 : decode cX7_mark 230 = .ok (.getfield 22, 3) := by decide +kernel
theorem dX7_mark_233 : decode cX7_mark 233 = .ok (.bipush 10, 2) := by decide +kernel
theorem dX7_mark_235 : decode cX7_mark 235 = .ok (.iload 4, 2) := by decide +kernel
theorem dX7_mark_237 : decode cX7_mark 237 = .ok (.iadd, 1) := by decide +kernel
theorem dX7_mark_238 : decode cX7_mark 238 = .ok (.iaload, 1) := by decide +kernel
theorem dX7_mark_239 : decode cX7_mark 239 = .ok (.aload_n 0, 1) := by decide +kernel
theorem dX7_mark_240 : decode cX7_mark 240 = .ok (.iload_n 1, 1) := by decide +kernel
theorem dX7_mark_241 : decode cX7_mark 241 = .ok (.invokevirtual 120, 3) := by decide +kernel
theorem dX7_mark_244 : decode cX7_mark 244 = .ok (.if_icmp .ne 7, 3) := by decide +kernel
theorem dX7_mark_247 : decode cX7_mark 247 = .ok (.iconst 1, 1) := by decide +kernel
theorem dX7_mark_248 : decode cX7_mark 248 = .ok (.goto 4, 3) := by decide +kernel
theorem dX7_mark_251 : decode cX7_mark 251 = .ok (.iconst 0, 1) := by decide +kernel
theorem dX7_mark_252 : decode cX7_mark 252 = .ok (.istore 6, 2) := by decide +kernel
theorem dX7_mark_254 : decode cX7_mark 254 = .ok (.iload_n 3, 1) := by decide +kernel
theorem dX7_mark_255 : decode cX7_mark 255 = .ok (.iload 5, 2) := by decide +kernel
theorem dX7_mark_257 : decode cX7_mark 257 = .ok (.ifCond .eq 12, 3) := by decide +kernel
theorem dX7_mark_260 : decode cX7_mark 260 = .ok (.iload 6, 2) := by decide +kernel
theorem dX7_mark_262 : decode cX7_mark 262 = .ok (.ifCond .eq 7, 3) := by decide +kernel
theorem dX7_mark_265 : decode cX7_mark 265 = .ok (.iconst 1, 1) := by decide +kernel
theorem dX7_mark_266 : decode cX7_mark 266 = .ok (.goto 4, 3) := by decide +kernel
theorem dX7_mark_269 : decode cX7_mark 269 = .ok (.iconst 0, 1) := by decide +kernel
theorem dX7_mark_270 : decode cX7_mark 270 = .ok (.iadd, 1) := by decide +kernel
theorem dX7_mark_271 : decode cX7_mark 271 = .ok (.istore_n 3, 1) := by decide +kernel
theorem dX7_mark_272 : decode cX7_mark 272 = .ok (.iinc 4 1, 3) := by decide +kernel
theorem dX7_mark_275 : decode cX7_mark 275 = .ok (.goto (-203), 3) := by decide +kernel
theorem dX7_mark_278 : decode cX7_mark 278 = .ok (.iload_n 3, 1) := by decide +kernel
theorem dX7_mark_279 : decode cX7_mark 279 = .ok (.ireturn, 1) := by decide +kernel
def F_X7_mark_L72 (n : Nat) (S : aSt) (a0 : Nat) (a1 : Int32) (a2 : Int32) (k23 : Nat) (K278 : Int32 → Option (Int32 × aSt)) : Nat → Int32 → Int32 → Option (Int32 × aSt)
  | 0, _, _ => none
  | fu + 1, l72_3, l72_4 =>
    if (7 : Int32) ≤ l72_4 then (K278 l72_3) else
    jn (fun (j117s0 : Int32) => (jn (fun (j252s0 : Int32) => (jn (fun (j270s1 : Int32) => (nm (l72_3 + j270s1) fun v271 =>
    F_X7_mark_L72 n S a0 a1 a2 k23 K278 fu v271 (l72_4 + (1 : Int32)) : Option (Int32 × aSt))) fun K270 =>
    jn ((K270 (0 : Int32) : Option (Int32 × aSt))) fun K269 =>
    if j117s0 = 0 then (K269) else
    if j252s0 = 0 then (K269) else
    K270 (1 : Int32) : Option (Int32 × aSt))) fun K252 =>
    if a2 = (1 : Int32) then (grd (inb ((3 : Int32) + l72_4) (SH k23).2) <|
    (F_X7_isOf n S (S.1 k23 ((3 : Int32) + l72_4).toNatClampNeg) (1 : Int32)).bind fun r134 =>
    jn ((K252 (0 : Int32) : Option (Int32 × aSt))) fun K163 =>
    if r134 = 0 then (K163) else
    if j117s0 = 0 then (K163) else
    (F_X7_means n S a0 l72_4).bind fun r148 =>
    (F_X7_means n S a0 a1).bind fun r153 =>
    if r148 = r153 then (K252 (1 : Int32)) else
    K163) else
    if a2 = (2 : Int32) then (jn ((K252 (0 : Int32) : Option (Int32 × aSt))) fun K204 =>
    if l72_4 = a1 then (K204) else
    grd (inb ((17 : Int32) + l72_4) (SH k23).2) <|
    grd (inb ((17 : Int32) + a1) (SH k23).2) <|
    if (S.1 k23 ((17 : Int32) + l72_4).toNatClampNeg) = (S.1 k23 ((17 : Int32) + a1).toNatClampNeg) then (K252 (1 : Int32)) else
    K204) else
    jn ((K252 (1 : Int32) : Option (Int32 × aSt))) fun K247 =>
    if a2 = (5 : Int32) then (grd (inb ((3 : Int32) + l72_4) (SH k23).2) <|
    (F_X7_isOf n S (S.1 k23 ((3 : Int32) + l72_4).toNatClampNeg) (2 : Int32)).bind fun r223 =>
    jn ((K252 (0 : Int32) : Option (Int32 × aSt))) fun K251 =>
    if r223 = 0 then (K251) else
    grd (inb ((10 : Int32) + l72_4) (SH k23).2) <|
    (F_X7_means n S a0 a1).bind fun r241 =>
    if (S.1 k23 ((10 : Int32) + l72_4).toNatClampNeg) = r241 then (K247) else
    K251) else
    K247 : Option (Int32 × aSt))) fun K117 =>
    if a2 = (3 : Int32) then ((F_X7_isQuestion n S a0 l72_4).bind fun r87 =>
    jn ((K117 (0 : Int32) : Option (Int32 × aSt))) fun K107 =>
    if r87 = 0 then (K107) else
    (F_X7_isFit n S a0 l72_4 a1).bind fun r97 =>
    if r97 = 0 then (K107) else
    K117 (1 : Int32)) else
    (F_X7_isCard n S a0 l72_4).bind fun r114 =>
    K117 r114
def F_X7_mark (n : Nat) (S : aSt) (a0 : Nat) (a1 : Int32) (a2 : Int32) : Option (Int32 × aSt) :=
(F_X7_isCard n S a0 a1).bind fun r2 =>
if r2 = 0 then (some ((-1 : Int32), S)) else
(F_X7_in n S a2.toInt64 (1 : Int64) (5 : Int64)).bind fun r14 =>
if r14 = 0 then (some ((-1 : Int32), S)) else
rfd (S.2.2 a0 4) 7 fun k23 =>
grd (inb ((3 : Int32) + a1) (SH k23).2) <|
(F_X7_isOf n S (S.1 k23 ((3 : Int32) + a1).toNatClampNeg) a2).bind fun r31 =>
if r31 = 0 then (bn2 (F_X7_found n S a0 (3 : Int32)) fun r39 S39 =>
some (r39, S39)) else
if a2 = (4 : Int32) then ((F_X7_means n S a0 a1).bind fun r50 =>
grd (inb ((10 : Int32) + a1) (SH k23).2) <|
some (((r50 - (S.1 k23 ((10 : Int32) + a1).toNatClampNeg)) + (10 : Int32)), S)) else
jn (fun (x278_3 : Int32) => (some (x278_3, S) : Option (Int32 × aSt))) fun K278 =>
F_X7_mark_L72 n S a0 a1 a2 k23 K278 n (0 : Int32) (0 : Int32)
set_option maxHeartbeats 4000000 in
set_option maxRecDepth 100000 in
theorem C_X7_mark (G : aG) (l : Launch) (n : Nat) (S : aSt) (a0 : Nat) (a1 : Int32) (a2 : Int32) (r : Int32) (Sr : aSt) (ha0 : isT a0 6 = true) (hf : F_X7_mark n S a0 a1 a2 = some (r, Sr)) : Ctr G l yX7_mark mX7_mark (rmM 4) 97 97 S [.ref a0, .int a1, .int a2] (some (.int r)) Sr := by
  refine Ctr.of (by decide) rfl rfl (Nat.le_of_ble_eq_true rfl) [(0, .ref a0), (1, .int a1), (2, .int a2)] rfl ?_
  unfold F_X7_mark at hf
  refine Go.aload_n 0 1 rfl dX7_mark_0 rfl ?_
  refine Go.iload_n 1 2 rfl dX7_mark_1 rfl ?_
  obtain ⟨r2, er2, hf⟩ := f_bnd hf
  refine Go.cV 5 [.int a1] [] (C_X7_isCard G l n S a0 a1 r2 ha0 er2) rfl dX7_mark_2 cv_X7_129 ha0 (by decide) (by decide) rfl (Nat.le_of_ble_eq_true rfl) ?_
  refine Go.if_eq 20 8 rfl dX7_mark_5 rfl (fun hc => ?_) (fun hc => ?_)
  · replace hf := f_if hf hc
    refine Go.iconst (-1 : Int32) 21 rfl dX7_mark_20 ci_m1 ?_
    exact Go.irS rfl dX7_mark_21 hf
  · replace hf := f_el hf hc
    refine Go.iload_n 2 9 rfl dX7_mark_8 rfl ?_
    refine Go.i2l 10 rfl dX7_mark_9 ?_
    refine Go.lconst (1 : Int64) 11 rfl dX7_mark_10 cl_1 ?_
    refine Go.ldc2 (5 : Int64) 14 rfl dX7_mark_11 (am_mem 910 (by decide +kernel) rfl) ?_
    obtain ⟨r14, er14, hf⟩ := f_bnd hf
    refine Go.cS 17 [.long a2.toInt64, .long (1 : Int64), .long (5 : Int64)] [] (C_X7_in G l n S a2.toInt64 (1 : Int64) (5 : Int64) r14  er14) rfl dX7_mark_14 cx_X7_66 (by decide) (by decide) rfl (Nat.le_of_ble_eq_true rfl) ?_
    refine Go.if_ne 22 20 rfl dX7_mark_17 rfl (fun hc => ?_) (fun hc => ?_)
    · replace hf := f_el hf hc
      refine Go.aload_n 0 23 rfl dX7_mark_22 rfl ?_
      obtain ⟨k23, qk23, hk23, hf⟩ := f_rfd hf
      refine Go.getR 26 rfl dX7_mark_23 fl_X7_22 rfl (isT_lt ha0) (isT_sh ha0) qk23 ?_
      refine Go.iconst (3 : Int32) 27 rfl dX7_mark_26 ci_3 ?_
      refine Go.iload_n 1 28 rfl dX7_mark_27 rfl ?_
      refine Go.iadd 29 rfl dX7_mark_28 ?_
      obtain ⟨g29, hf⟩ := f_grd hf
      refine Go.iald 30 rfl dX7_mark_29 (isT_lt hk23) (isT_sh hk23) g29 ?_
      refine Go.iload_n 2 31 rfl dX7_mark_30 rfl ?_
      obtain ⟨r31, er31, hf⟩ := f_bnd hf
      refine Go.cS 34 [.int (S.1 k23 ((3 : Int32) + a1).toNatClampNeg), .int a2] [] (C_X7_isOf G l n S (S.1 k23 ((3 : Int32) + a1).toNatClampNeg) a2 r31  er31) rfl dX7_mark_31 cx_X7_116 (by decide) (by decide) rfl (Nat.le_of_ble_eq_true rfl) ?_
      refine Go.if_ne 43 37 rfl dX7_mark_34 rfl (fun hc => ?_) (fun hc => ?_)
      · replace hf := f_el hf hc
        refine Go.iload_n 2 44 rfl dX7_mark_43 rfl ?_
        refine Go.iconst (4 : Int32) 45 rfl dX7_mark_44 ci_4 ?_
        refine Go.icmp_ne 67 48 rfl dX7_mark_45 rfl (fun hc => ?_) (fun hc => ?_)
        · replace hf := f_el hf hc
          refine Go.iconst (0 : Int32) 68 rfl dX7_mark_67 ci_0 ?_
          refine Go.istore_n 69 [(3, .int (0 : Int32)), (0, .ref a0), (1, .int a1), (2, .int a2)] rfl dX7_mark_68 (by decide) rfl ?_
          refine Go.iconst (0 : Int32) 70 rfl dX7_mark_69 ci_0 ?_
          refine Go.istore 72 [(4, .int (0 : Int32)), (3, .int (0 : Int32)), (0, .ref a0), (1, .int a1), (2, .int a2)] rfl dX7_mark_70 (by decide) rfl ?_
          obtain ⟨K278, eK278, hf⟩ := f_jn hf
          have J278 : ∀ (x278_3 : Int32), K278 x278_3 = some (r, Sr) → GoM G l 4 (TmR G (some (.int r)) 97 Sr 0 0) mX7_mark 278 [(3, .int x278_3)] [] S := by
            intro x278_3 hf
            rw [eK278] at hf
            refine Go.iload_n 0 279 rfl dX7_mark_278 rfl ?_
            exact Go.irS rfl dX7_mark_279 hf
          clear eK278
          have L72 : ∀ (fu : Nat) (l72_3 : Int32) (l72_4 : Int32), F_X7_mark_L72 n S a0 a1 a2 k23 K278 fu l72_3 l72_4 = some (r, Sr) → GoM G l 4 (TmR G (some (.int r)) 97 Sr 0 0) mX7_mark 72 [(0, .ref a0), (1, .int a1), (2, .int a2), (3, .int l72_3), (4, .int l72_4)] [] S := by
            intro fu
            induction fu with
            | zero => intro l72_3 l72_4 hf; rw [F_X7_mark_L72] at hf; cases hf
            | succ fu ih =>
              intro l72_3 l72_4 hf
              rw [F_X7_mark_L72] at hf
              refine Go.iload 4 74 rfl dX7_mark_72 rfl ?_
              refine Go.bipush (7 : Int32) 76 rfl dX7_mark_74 cb_7 ?_
              refine Go.icmp_ge 278 79 rfl dX7_mark_76 rfl (fun hc => ?_) (fun hc => ?_)
              · replace hf := f_if hf hc
                exact Go.sub [3] [(3, .int l72_3)] rfl (J278 l72_3 hf)
              · replace hf := f_el hf hc
                refine Go.iload_n 2 80 rfl dX7_mark_79 rfl ?_
                refine Go.iconst (3 : Int32) 81 rfl dX7_mark_80 ci_3 ?_
                obtain ⟨K117, eK117, hf⟩ := f_jn hf
                have J117 : ∀ (j117s0 : Int32), K117 j117s0 = some (r, Sr) → GoM G l 4 (TmR G (some (.int r)) 97 Sr 0 0) mX7_mark 117 [(0, .ref a0), (1, .int a1), (2, .int a2), (3, .int l72_3), (4, .int l72_4)] [.int j117s0] S := by
                  intro j117s0 hf
                  rw [eK117] at hf
                  refine Go.istore 119 [(5, .int j117s0), (0, .ref a0), (1, .int a1), (2, .int a2), (3, .int l72_3), (4, .int l72_4)] rfl dX7_mark_117 (by decide) rfl ?_
                  refine Go.iload_n 3 120 rfl dX7_mark_119 rfl ?_
                  refine Go.iconst (1 : Int32) 121 rfl dX7_mark_120 ci_1 ?_
                  obtain ⟨K252, eK252, hf⟩ := f_jn hf
                  have J252 : ∀ (j252s0 : Int32), K252 j252s0 = some (r, Sr) → GoM G l 4 (TmR G (some (.int r)) 97 Sr 0 0) mX7_mark 252 [(0, .ref a0), (1, .int a1), (2, .int a2), (3, .int l72_3), (4, .int l72_4), (5, .int j117s0)] [.int j252s0] S := by
                    intro j252s0 hf
                    rw [eK252] at hf
                    refine Go.istore 254 [(6, .int j252s0), (0, .ref a0), (1, .int a1), (2, .int a2), (3, .int l72_3), (4, .int l72_4), (5, .int j117s0)] rfl dX7_mark_252 (by decide) rfl ?_
                    refine Go.iload_n 4 255 rfl dX7_mark_254 rfl ?_
                    refine Go.iload 6 257 rfl dX7_mark_255 rfl ?_
                    obtain ⟨K270, eK270, hf⟩ := f_jn hf
                    have J270 : ∀ (j270s1 : Int32), K270 j270s1 = some (r, Sr) → GoM G l 4 (TmR G (some (.int r)) 97 Sr 0 0) mX7_mark 270 [(0, .ref a0), (1, .int a1), (2, .int a2), (4, .int l72_4)] [.int j270s1, .int l72_3] S := by
                      intro j270s1 hf
                      rw [eK270] at hf
                      refine Go.iadd 271 rfl dX7_mark_270 ?_
                      obtain ⟨v271, ev271, hf⟩ := f_nm hf
                      refine Go.topi v271 ev271 ?_
                      refine Go.istore_n 272 [(3, .int v271), (0, .ref a0), (1, .int a1), (2, .int a2), (4, .int l72_4)] rfl dX7_mark_271 (by decide) rfl ?_
                      refine Go.inc 4 275 (1 : Int32) [(4, .int (l72_4 + (1 : Int32))), (3, .int v271), (0, .ref a0), (1, .int a1), (2, .int a2)] rfl dX7_mark_272 rfl ci_1 (by decide) rfl ?_
                      refine Go.goto 72 dX7_mark_275 rfl ?_
                      exact Go.sub [2, 3, 4, 1, 0] [(0, .ref a0), (1, .int a1), (2, .int a2), (3, .int v271), (4, .int (l72_4 + (1 : Int32)))] rfl (ih v271 (l72_4 + (1 : Int32)) hf)
                    clear eK270
                    obtain ⟨K269, eK269, hf⟩ := f_jn hf
                    have J269 : K269 = some (r, Sr) → GoM G l 4 (TmR G (some (.int r)) 97 Sr 0 0) mX7_mark 269 [(0, .ref a0), (1, .int a1), (2, .int a2), (4, .int l72_4)] [.int l72_3] S := by
                      intro hf
                      rw [eK269] at hf
                      refine Go.iconst (0 : Int32) 270 rfl dX7_mark_269 ci_0 ?_
                      exact J270 (0 : Int32) hf
                    clear eK269
                    refine Go.if_eq 269 260 rfl dX7_mark_257 rfl (fun hc => ?_) (fun hc => ?_)
                    · replace hf := f_if hf hc
                      exact Go.sub [1, 2, 3, 5] [(0, .ref a0), (1, .int a1), (2, .int a2), (4, .int l72_4)] rfl (J269 hf)
                    · replace hf := f_el hf hc
                      refine Go.iload 0 262 rfl dX7_mark_260 rfl ?_
                      refine Go.if_eq 269 265 rfl dX7_mark_262 rfl (fun hc => ?_) (fun hc => ?_)
                      · replace hf := f_if hf hc
                        exact Go.sub [1, 2, 3, 5] [(0, .ref a0), (1, .int a1), (2, .int a2), (4, .int l72_4)] rfl (J269 hf)
                      · replace hf := f_el hf hc
                        refine Go.iconst (1 : Int32) 266 rfl dX7_mark_265 ci_1 ?_
                        refine Go.goto 270 dX7_mark_266 rfl ?_
                        exact Go.sub [1, 2, 3, 5] [(0, .ref a0), (1, .int a1), (2, .int a2), (4, .int l72_4)] rfl (J270 (1 : Int32) hf)
                  clear eK252
                  refine Go.icmp_ne 167 124 rfl dX7_mark_121 rfl (fun hc => ?_) (fun hc => ?_)
                  · replace hf := f_el hf hc
                    refine Go.iload_n 3 168 rfl dX7_mark_167 rfl ?_
                    refine Go.iconst (2 : Int32) 169 rfl dX7_mark_168 ci_2 ?_
                    refine Go.icmp_ne 208 172 rfl dX7_mark_169 rfl (fun hc => ?_) (fun hc => ?_)
                    · replace hf := f_el hf hc
                      refine Go.iload_n 3 209 rfl dX7_mark_208 rfl ?_
                      refine Go.iconst (5 : Int32) 210 rfl dX7_mark_209 ci_5 ?_
                      obtain ⟨K247, eK247, hf⟩ := f_jn hf
                      have J247 : K247 = some (r, Sr) → GoM G l 4 (TmR G (some (.int r)) 97 Sr 0 0) mX7_mark 247 [(0, .ref a0), (1, .int a1), (2, .int a2), (3, .int l72_3), (4, .int l72_4), (5, .int j117s0)] [] S := by
                        intro hf
                        rw [eK247] at hf
                        refine Go.iconst (1 : Int32) 248 rfl dX7_mark_247 ci_1 ?_
                        refine Go.goto 252 dX7_mark_248 rfl ?_
                        exact J252 (1 : Int32) hf
                      clear eK247
                      refine Go.icmp_ne 247 213 rfl dX7_mark_210 rfl (fun hc => ?_) (fun hc => ?_)
                      · replace hf := f_el hf hc
                        exact Go.sub [1, 2, 3, 4, 5, 0] [(0, .ref a0), (1, .int a1), (2, .int a2), (3, .int l72_3), (4, .int l72_4), (5, .int j117s0)] rfl (J247 hf)
                      · replace hf := f_if hf hc
                        refine Go.aload_n 1 214 rfl dX7_mark_213 rfl ?_
                        refine Go.getR 217 rfl dX7_mark_214 fl_X7_22 rfl (isT_lt ha0) (isT_sh ha0) qk23 ?_
                        refine Go.iconst (3 : Int32) 218 rfl dX7_mark_217 ci_3 ?_
                        refine Go.iload 5 220 rfl dX7_mark_218 rfl ?_
                        refine Go.iadd 221 rfl dX7_mark_220 ?_
                        obtain ⟨g221, hf⟩ := f_grd hf
                        refine Go.iald 222 rfl dX7_mark_221 (isT_lt hk23) (isT_sh hk23) g221 ?_
                        refine Go.iconst (2 : Int32) 223 rfl dX7_mark_222 ci_2 ?_
                        obtain ⟨r223, er223, hf⟩ := f_bnd hf
                        refine Go.cS 226 [.int (S.1 k23 ((3 : Int32) + l72_4).toNatClampNeg), .int (2 : Int32)] [] (C_X7_isOf G l n S (S.1 k23 ((3 : Int32) + l72_4).toNatClampNeg) (2 : Int32) r223  er223) rfl dX7_mark_223 cx_X7_116 (by decide) (by decide) rfl (Nat.le_of_ble_eq_true rfl) ?_
                        obtain ⟨K251, eK251, hf⟩ := f_jn hf
                        have J251 : K251 = some (r, Sr) → GoM G l 4 (TmR G (some (.int r)) 97 Sr 0 0) mX7_mark 251 [(0, .ref a0), (1, .int a1), (2, .int a2), (3, .int l72_3), (4, .int l72_4), (5, .int j117s0)] [] S := by
                          intro hf
                          rw [eK251] at hf
                          refine Go.iconst (0 : Int32) 252 rfl dX7_mark_251 ci_0 ?_
                          exact J252 (0 : Int32) hf
                        clear eK251
                        refine Go.if_eq 251 229 rfl dX7_mark_226 rfl (fun hc => ?_) (fun hc => ?_)
                        · replace hf := f_if hf hc
                          exact Go.sub [1, 2, 3, 4, 5, 0] [(0, .ref a0), (1, .int a1), (2, .int a2), (3, .int l72_3), (4, .int l72_4), (5, .int j117s0)] rfl (J251 hf)
                        · replace hf := f_el hf hc
                          refine Go.aload_n 1 230 rfl dX7_mark_229 rfl ?_
                          refine Go.getR 233 rfl dX7_mark_230 fl_X7_22 rfl (isT_lt ha0) (isT_sh ha0) qk23 ?_
                          refine Go.bipush (10 : Int32) 235 rfl dX7_mark_233 cb_10 ?_
                          refine Go.iload 5 237 rfl dX7_mark_235 rfl ?_
                          refine Go.iadd 238 rfl dX7_mark_237 ?_
                          obtain ⟨g238, hf⟩ := f_grd hf
                          refine Go.iald 239 rfl dX7_mark_238 (isT_lt hk23) (isT_sh hk23) g238 ?_
                          refine Go.aload_n 1 240 rfl dX7_mark_239 rfl ?_
                          refine Go.iload_n 2 241 rfl dX7_mark_240 rfl ?_
                          obtain ⟨r241, er241, hf⟩ := f_bnd hf
                          refine Go.cV 244 [.int a1] [.int (S.1 k23 ((10 : Int32) + l72_4).toNatClampNeg)] (C_X7_means G l n S a0 a1 r241 ha0 er241) rfl dX7_mark_241 cv_X7_120 ha0 (by decide) (by decide) rfl (Nat.le_of_ble_eq_true rfl) ?_
                          refine Go.icmp_ne 251 247 rfl dX7_mark_244 rfl (fun hc => ?_) (fun hc => ?_)
                          · replace hf := f_el hf hc
                            exact Go.sub [1, 2, 3, 4, 5, 0] [(0, .ref a0), (1, .int a1), (2, .int a2), (3, .int l72_3), (4, .int l72_4), (5, .int j117s0)] rfl (J251 hf)
                          · replace hf := f_if hf hc
                            exact Go.sub [1, 2, 3, 4, 5, 0] [(0, .ref a0), (1, .int a1), (2, .int a2), (3, .int l72_3), (4, .int l72_4), (5, .int j117s0)] rfl (J247 hf)
                    · replace hf := f_if hf hc
                      refine Go.iload 5 174 rfl dX7_mark_172 rfl ?_
                      refine Go.iload_n 2 175 rfl dX7_mark_174 rfl ?_
                      obtain ⟨K204, eK204, hf⟩ := f_jn hf
                      have J204 : K204 = some (r, Sr) → GoM G l 4 (TmR G (some (.int r)) 97 Sr 0 0) mX7_mark 204 [(0, .ref a0), (1, .int a1), (2, .int a2), (3, .int l72_3), (4, .int l72_4), (5, .int j117s0)] [] S := by
                        intro hf
                        rw [eK204] at hf
                        refine Go.iconst (0 : Int32) 205 rfl dX7_mark_204 ci_0 ?_
                        refine Go.goto 252 dX7_mark_205 rfl ?_
                        exact J252 (0 : Int32) hf
                      clear eK204
                      refine Go.icmp_eq 204 178 rfl dX7_mark_175 rfl (fun hc => ?_) (fun hc => ?_)
                      · replace hf := f_if hf hc
                        exact Go.sub [1, 2, 3, 4, 5, 0] [(0, .ref a0), (1, .int a1), (2, .int a2), (3, .int l72_3), (4, .int l72_4), (5, .int j117s0)] rfl (J204 hf)
                      · replace hf := f_el hf hc
                        refine Go.aload_n 1 179 rfl dX7_mark_178 rfl ?_
                        refine Go.getR 182 rfl dX7_mark_179 fl_X7_22 rfl (isT_lt ha0) (isT_sh ha0) qk23 ?_
                        refine Go.bipush (17 : Int32) 184 rfl dX7_mark_182 cb_17 ?_
                        refine Go.iload 5 186 rfl dX7_mark_184 rfl ?_
                        refine Go.iadd 187 rfl dX7_mark_186 ?_
                        obtain ⟨g187, hf⟩ := f_grd hf
                        refine Go.iald 188 rfl dX7_mark_187 (isT_lt hk23) (isT_sh hk23) g187 ?_
                        refine Go.aload_n 1 189 rfl dX7_mark_188 rfl ?_
                        refine Go.getR 192 rfl dX7_mark_189 fl_X7_22 rfl (isT_lt ha0) (isT_sh ha0) qk23 ?_
                        refine Go.bipush (17 : Int32) 194 rfl dX7_mark_192 cb_17 ?_
                        refine Go.iload_n 2 195 rfl dX7_mark_194 rfl ?_
                        refine Go.iadd 196 rfl dX7_mark_195 ?_
                        obtain ⟨g196, hf⟩ := f_grd hf
                        refine Go.iald 197 rfl dX7_mark_196 (isT_lt hk23) (isT_sh hk23) g196 ?_
                        refine Go.icmp_ne 204 200 rfl dX7_mark_197 rfl (fun hc => ?_) (fun hc => ?_)
                        · replace hf := f_el hf hc
                          exact Go.sub [1, 2, 3, 4, 5, 0] [(0, .ref a0), (1, .int a1), (2, .int a2), (3, .int l72_3), (4, .int l72_4), (5, .int j117s0)] rfl (J204 hf)
                        · replace hf := f_if hf hc
                          refine Go.iconst (1 : Int32) 201 rfl dX7_mark_200 ci_1 ?_
                          refine Go.goto 252 dX7_mark_201 rfl ?_
                          exact Go.sub [1, 2, 3, 4, 5, 0] [(0, .ref a0), (1, .int a1), (2, .int a2), (3, .int l72_3), (4, .int l72_4), (5, .int j117s0)] rfl (J252 (1 : Int32) hf)
                  · replace hf := f_if hf hc
                    refine Go.aload_n 1 125 rfl dX7_mark_124 rfl ?_
                    refine Go.getR 128 rfl dX7_mark_125 fl_X7_22 rfl (isT_lt ha0) (isT_sh ha0) qk23 ?_
                    refine Go.iconst (3 : Int32) 129 rfl dX7_mark_128 ci_3 ?_
                    refine Go.iload 5 131 rfl dX7_mark_129 rfl ?_
                    refine Go.iadd 132 rfl dX7_mark_131 ?_
                    obtain ⟨g132, hf⟩ := f_grd hf
                    refine Go.iald 133 rfl dX7_mark_132 (isT_lt hk23) (isT_sh hk23) g132 ?_
                    refine Go.iconst (1 : Int32) 134 rfl dX7_mark_133 ci_1 ?_
                    obtain ⟨r134, er134, hf⟩ := f_bnd hf
                    refine Go.cS 137 [.int (S.1 k23 ((3 : Int32) + l72_4).toNatClampNeg), .int (1 : Int32)] [] (C_X7_isOf G l n S (S.1 k23 ((3 : Int32) + l72_4).toNatClampNeg) (1 : Int32) r134  er134) rfl dX7_mark_134 cx_X7_116 (by decide) (by decide) rfl (Nat.le_of_ble_eq_true rfl) ?_
                    obtain ⟨K163, eK163, hf⟩ := f_jn hf
                    have J163 : K163 = some (r, Sr) → GoM G l 4 (TmR G (some (.int r)) 97 Sr 0 0) mX7_mark 163 [(0, .ref a0), (1, .int a1), (2, .int a2), (3, .int l72_3), (4, .int l72_4), (5, .int j117s0)] [] S := by
                      intro hf
                      rw [eK163] at hf
                      refine Go.iconst (0 : Int32) 164 rfl dX7_mark_163 ci_0 ?_
                      refine Go.goto 252 dX7_mark_164 rfl ?_
                      exact J252 (0 : Int32) hf
                    clear eK163
                    refine Go.if_eq 163 140 rfl dX7_mark_137 rfl (fun hc => ?_) (fun hc => ?_)
                    · replace hf := f_if hf hc
                      exact Go.sub [1, 2, 3, 4, 5, 0] [(0, .ref a0), (1, .int a1), (2, .int a2), (3, .int l72_3), (4, .int l72_4), (5, .int j117s0)] rfl (J163 hf)
                    · replace hf := f_el hf hc
                      refine Go.iload 0 142 rfl dX7_mark_140 rfl ?_
                      refine Go.if_eq 163 145 rfl dX7_mark_142 rfl (fun hc => ?_) (fun hc => ?_)
                      · replace hf := f_if hf hc
                        exact Go.sub [1, 2, 3, 4, 5, 0] [(0, .ref a0), (1, .int a1), (2, .int a2), (3, .int l72_3), (4, .int l72_4), (5, .int j117s0)] rfl (J163 hf)
                      · replace hf := f_el hf hc
                        refine Go.aload_n 1 146 rfl dX7_mark_145 rfl ?_
                        refine Go.iload 5 148 rfl dX7_mark_146 rfl ?_
                        obtain ⟨r148, er148, hf⟩ := f_bnd hf
                        refine Go.cV 151 [.int l72_4] [] (C_X7_means G l n S a0 l72_4 r148 ha0 er148) rfl dX7_mark_148 cv_X7_120 ha0 (by decide) (by decide) rfl (Nat.le_of_ble_eq_true rfl) ?_
                        refine Go.aload_n 1 152 rfl dX7_mark_151 rfl ?_
                        refine Go.iload_n 2 153 rfl dX7_mark_152 rfl ?_
                        obtain ⟨r153, er153, hf⟩ := f_bnd hf
                        refine Go.cV 156 [.int a1] [.int r148] (C_X7_means G l n S a0 a1 r153 ha0 er153) rfl dX7_mark_153 cv_X7_120 ha0 (by decide) (by decide) rfl (Nat.le_of_ble_eq_true rfl) ?_
                        refine Go.icmp_ne 163 159 rfl dX7_mark_156 rfl (fun hc => ?_) (fun hc => ?_)
                        · replace hf := f_el hf hc
                          exact Go.sub [1, 2, 3, 4, 5, 0] [(0, .ref a0), (1, .int a1), (2, .int a2), (3, .int l72_3), (4, .int l72_4), (5, .int j117s0)] rfl (J163 hf)
                        · replace hf := f_if hf hc
                          refine Go.iconst (1 : Int32) 160 rfl dX7_mark_159 ci_1 ?_
                          refine Go.goto 252 dX7_mark_160 rfl ?_
                          exact Go.sub [1, 2, 3, 4, 5, 0] [(0, .ref a0), (1, .int a1), (2, .int a2), (3, .int l72_3), (4, .int l72_4), (5, .int j117s0)] rfl (J252 (1 : Int32) hf)
                clear eK117
                refine Go.icmp_ne 111 84 rfl dX7_mark_81 rfl (fun hc => ?_) (fun hc => ?_)
                · replace hf := f_el hf hc
                  refine Go.aload_n 0 112 rfl dX7_mark_111 rfl ?_
                  refine Go.iload 4 114 rfl dX7_mark_112 rfl ?_
                  obtain ⟨r114, er114, hf⟩ := f_bnd hf
                  refine Go.cV 117 [.int l72_4] [] (C_X7_isCard G l n S a0 l72_4 r114 ha0 er114) rfl dX7_mark_114 cv_X7_129 ha0 (by decide) (by decide) rfl (Nat.le_of_ble_eq_true rfl) ?_
                  exact J117 r114 hf
                · replace hf := f_if hf hc
                  refine Go.aload_n 0 85 rfl dX7_mark_84 rfl ?_
                  refine Go.iload 4 87 rfl dX7_mark_85 rfl ?_
                  obtain ⟨r87, er87, hf⟩ := f_bnd hf
                  refine Go.cV 90 [.int l72_4] [] (C_X7_isQuestion G l n S a0 l72_4 r87 ha0 er87) rfl dX7_mark_87 cv_X7_136 ha0 (by decide) (by decide) rfl (Nat.le_of_ble_eq_true rfl) ?_
                  obtain ⟨K107, eK107, hf⟩ := f_jn hf
                  have J107 : K107 = some (r, Sr) → GoM G l 4 (TmR G (some (.int r)) 97 Sr 0 0) mX7_mark 107 [(0, .ref a0), (1, .int a1), (2, .int a2), (3, .int l72_3), (4, .int l72_4)] [] S := by
                    intro hf
                    rw [eK107] at hf
                    refine Go.iconst (0 : Int32) 108 rfl dX7_mark_107 ci_0 ?_
                    refine Go.goto 117 dX7_mark_108 rfl ?_
                    exact J117 (0 : Int32) hf
                  clear eK107
                  refine Go.if_eq 107 93 rfl dX7_mark_90 rfl (fun hc => ?_) (fun hc => ?_)
                  · replace hf := f_if hf hc
                    exact J107 hf
                  · replace hf := f_el hf hc
                    refine Go.aload_n 0 94 rfl dX7_mark_93 rfl ?_
                    refine Go.iload 4 96 rfl dX7_mark_94 rfl ?_
                    refine Go.iload_n 1 97 rfl dX7_mark_96 rfl ?_
                    obtain ⟨r97, er97, hf⟩ := f_bnd hf
                    refine Go.cV 100 [.int l72_4, .int a1] [] (C_X7_isFit G l n S a0 l72_4 a1 r97 ha0 er97) rfl dX7_mark_97 cv_X7_139 ha0 (by decide) (by decide) rfl (Nat.le_of_ble_eq_true rfl) ?_
                    refine Go.if_eq 107 103 rfl dX7_mark_100 rfl (fun hc => ?_) (fun hc => ?_)
                    · replace hf := f_if hf hc
                      exact J107 hf
                    · replace hf := f_el hf hc
                      refine Go.iconst (1 : Int32) 104 rfl dX7_mark_103 ci_1 ?_
                      refine Go.goto 117 dX7_mark_104 rfl ?_
                      exact J117 (1 : Int32) hf
          exact Go.sub [2, 3, 4, 1, 0] [(0, .ref a0), (1, .int a1), (2, .int a2), (3, .int (0 : Int32)), (4, .int (0 : Int32))] rfl (L72 n (0 : Int32) (0 : Int32) hf)
        · replace hf := f_if hf hc
          refine Go.aload_n 0 49 rfl dX7_mark_48 rfl ?_
          refine Go.iload_n 1 50 rfl dX7_mark_49 rfl ?_
          obtain ⟨r50, er50, hf⟩ := f_bnd hf
          refine Go.cV 53 [.int a1] [] (C_X7_means G l n S a0 a1 r50 ha0 er50) rfl dX7_mark_50 cv_X7_120 ha0 (by decide) (by decide) rfl (Nat.le_of_ble_eq_true rfl) ?_
          refine Go.aload_n 0 54 rfl dX7_mark_53 rfl ?_
          refine Go.getR 57 rfl dX7_mark_54 fl_X7_22 rfl (isT_lt ha0) (isT_sh ha0) qk23 ?_
          refine Go.bipush (10 : Int32) 59 rfl dX7_mark_57 cb_10 ?_
          refine Go.iload_n 1 60 rfl dX7_mark_59 rfl ?_
          refine Go.iadd 61 rfl dX7_mark_60 ?_
          obtain ⟨g61, hf⟩ := f_grd hf
          refine Go.iald 62 rfl dX7_mark_61 (isT_lt hk23) (isT_sh hk23) g61 ?_
          refine Go.isub 63 rfl dX7_mark_62 ?_
          refine Go.bipush (10 : Int32) 65 rfl dX7_mark_63 cb_10 ?_
          refine Go.iadd 66 rfl dX7_mark_65 ?_
          exact Go.irS rfl dX7_mark_66 hf
      · replace hf := f_if hf hc
        refine Go.aload_n 0 38 rfl dX7_mark_37 rfl ?_
        refine Go.iconst (3 : Int32) 39 rfl dX7_mark_38 ci_3 ?_
        obtain ⟨r39, S39, er39, hf⟩ := f_bn2 hf
        refine Go.cV 42 [.int (3 : Int32)] [] (C_X7_found G l n S a0 (3 : Int32) r39 S39 ha0 er39) rfl dX7_mark_39 cv_X7_76 ha0 (by decide) (by decide) rfl (Nat.le_of_ble_eq_true rfl) ?_
        exact Go.irS rfl dX7_mark_42 hf
    · replace hf := f_if hf hc
      refine Go.iconst (-1 : Int32) 21 rfl dX7_mark_20 ci_m1 ?_
      exact Go.irS rfl dX7_mark_21 hf
theorem dX7_puts_0 : decode cX7_puts 0 = .ok (.aload_n 0, 1) := by decide +kernel
theorem dX7_puts_1 : decode cX7_puts 1 = .ok (.getfield 22, 3) := by decide +kernel
theorem dX7_puts_4 : decode cX7_puts 4 = .ok (.iload_n 1, 1) := by decide +kernel
theorem dX7_puts_5 : decode cX7_puts 5 = .ok (.iaload, 1) := by decide +kernel
theorem dX7_puts_6 : decode cX7_puts 6 = .ok (.istore_n 3, 1) := by decide +kernel
theorem dX7_puts_7 : decode cX7_puts 7 = .ok (.aload_n 0, 1) := by decide +kernel
theorem dX7_puts_8 : decode cX7_puts 8 = .ok (.getfield 22, 3) := by decide +kernel
theorem dX7_puts_11 : decode cX7_puts 11 = .ok (.iload_n 1, 1) := by decide +kernel
theorem dX7_puts_12 : decode cX7_puts 12 = .ok (.iload_n 2, 1) := by decide +kernel
theorem dX7_puts_13 : decode cX7_puts 13 = .ok (.iastore, 1) := by decide +kernel
theorem dX7_puts_14 : decode cX7_puts 14 = .ok (.iload_n 3, 1) := by decide +kernel
theorem dX7_puts_15 : decode cX7_puts 15 = .ok (.ireturn, 1) := by decide +kernel
def F_X7_puts (n : Nat) (S : aSt) (a0 : Nat) (a1 : Int32) (a2 : Int32) : Option (Int32 × aSt) :=
rfd (S.2.2 a0 4) 7 fun k1 =>
grd (inb a1 (SH k1).2) <|
nm (S.1 k1 a1.toNatClampNeg) fun v6 =>
grd (inb a1 (SH k1).2) <|
nm (stI S k1 a1.toNatClampNeg a2) fun S13 =>
some (v6, S13)
set_option maxHeartbeats 4000000 in
set_option maxRecDepth 100000 in
theorem C_X7_puts (G : aG) (l : Launch) (n : Nat) (S : aSt) (a0 : Nat) (a1 : Int32) (a2 : Int32) (r : Int32) (Sr : aSt) (ha0 : isT a0 6 = true) (hf : F_X7_puts n S a0 a1 a2 = some (r, Sr)) : Ctr G l yX7_puts mX7_puts (rmM 1) 97 97 S [.ref a0, .int a1, .int a2] (some (.int r)) Sr := by
  refine Ctr.of (by decide) rfl rfl (Nat.le_of_ble_eq_true rfl) [(0, .ref a0), (1, .int a1), (2, .int a2)] rfl ?_
  unfold F_X7_puts at hf
  refine Go.aload_n 0 1 rfl dX7_puts_0 rfl ?_
  obtain ⟨k1, qk1, hk1, hf⟩ := f_rfd hf
  refine Go.getR 4 rfl dX7_puts_1 fl_X7_22 rfl (isT_lt ha0) (isT_sh ha0) qk1 ?_
  refine Go.iload_n 1 5 rfl dX7_puts_4 rfl ?_
  obtain ⟨g5, hf⟩ := f_grd hf
  refine Go.iald 6 rfl dX7_puts_5 (isT_lt hk1) (isT_sh hk1) g5 ?_
  obtain ⟨v6, ev6, hf⟩ := f_nm hf
  refine Go.topi v6 ev6 ?_
  refine Go.istore_n 7 [(3, .int v6), (0, .ref a0), (1, .int a1), (2, .int a2)] rfl dX7_puts_6 (by decide) rfl ?_
  refine Go.aload_n 1 8 rfl dX7_puts_7 rfl ?_
  refine Go.getR 11 rfl dX7_puts_8 fl_X7_22 rfl (isT_lt ha0) (isT_sh ha0) qk1 ?_
  refine Go.iload_n 2 12 rfl dX7_puts_11 rfl ?_
  refine Go.iload_n 3 13 rfl dX7_puts_12 rfl ?_
  obtain ⟨g13, hf⟩ := f_grd hf
  obtain ⟨S13, eS13, hf⟩ := f_nm hf
  refine Go.iast 14 rfl dX7_puts_13 (isT_lt hk1) (isT_sh hk1) g13 (Go.stt S13 eS13 ?_)
  refine Go.iload_n 0 15 rfl dX7_puts_14 rfl ?_
  exact Go.irS rfl dX7_puts_15 hf
theorem dX7_shelve_0 : decode cX7_shelve 0 = .ok (.aload_n 0, 1) := by decide +kernel
theorem dX7_shelve_1 : decode cX7_shelve 1 = .ok (.iload_n 1, 1) := by decide +kernel
theorem dX7_shelve_2 : decode cX7_shelve 2 = .ok (.invokevirtual 129, 3) := by decide +kernel
theorem dX7_shelve_5 : decode cX7_shelve 5 = .ok (.ifCond .eq 27, 3) := by decide +kernel
theorem dX7_shelve_8 : decode cX7_shelve 8 = .ok (.iload_n 2, 1) := by decide +kernel
theorem dX7_shelve_9 : decode cX7_shelve 9 = .ok (.i2l, 1) := by decide +kernel
theorem dX7_shelve_10 : decode cX7_shelve 10 = .ok (.lconst 0, 1) := by decide +kernel
theorem dX7_shelve_11 : decode cX7_shelve 11 = .ok (.ldc2_w 70, 3) := by decide +kernel
theorem dX7_shelve_14 : decode cX7_shelve 14 = .ok (.invokestatic 66, 3) := by decide +kernel
theorem dX7_shelve_17 : decode cX7_shelve 17 = .ok (.ifCond .eq 15, 3) := by decide +kernel
theorem dX7_shelve_20 : decode cX7_shelve 20 = .ok (.aload_n 0, 1) := by decide +kernel
theorem dX7_shelve_21 : decode cX7_shelve 21 = .ok (.bipush 17, 2) := by decide +kernel
theorem dX7_shelve_23 : decode cX7_shelve 23 = .ok (.iload_n 1, 1) := by decide +kernel
theorem dX7_shelve_24 : decode cX7_shelve 24 = .ok (.iadd, 1) := by decide +kernel
theorem dX7_shelve_25 : decode cX7_shelve 25 = .ok (.iload_n 2, 1) := by decide +kernel
theorem dX7_shelve_26 : decode cX7_shelve 26 = .ok (.invokevirtual 142, 3) := by decide +kernel
theorem dX7_shelve_29 : decode cX7_shelve 29 = .ok (.goto 4, 3) := by decide +kernel
theorem dX7_shelve_32 : decode cX7_shelve 32 = .ok (.iconst (-1), 1) := by decide +kernel
theorem dX7_shelve_33 : decode cX7_shelve 33 = .ok (.ireturn, 1) := by decide +kernel
def F_X7_shelve (n : Nat) (S : aSt) (a0 : Nat) (a1 : Int32) (a2 : Int32) : Option (Int32 × aSt) :=
(F_X7_isCard n S a0 a1).bind fun r2 =>
if r2 = 0 then (some ((-1 : Int32), S)) else
(F_X7_in n S a2.toInt64 (0 : Int64) (3 : Int64)).bind fun r14 =>
if r14 = 0 then (some ((-1 : Int32), S)) else
bn2 (F_X7_puts n S a0 ((17 : Int32) + a1) a2) fun r26 S26 =>
some (r26, S26)
set_option maxHeartbeats 4000000 in
set_option maxRecDepth 100000 in
theorem C_X7_shelve (G : aG) (l : Launch) (n : Nat) (S : aSt) (a0 : Nat) (a1 : Int32) (a2 : Int32) (r : Int32) (Sr : aSt) (ha0 : isT a0 6 = true) (hf : F_X7_shelve n S a0 a1 a2 = some (r, Sr)) : Ctr G l yX7_shelve mX7_shelve (rmM 3) 97 97 S [.ref a0, .int a1, .int a2] (some (.int r)) Sr := by
  refine Ctr.of (by decide) rfl rfl (Nat.le_of_ble_eq_true rfl) [(0, .ref a0), (1, .int a1), (2, .int a2)] rfl ?_
  unfold F_X7_shelve at hf
  refine Go.aload_n 0 1 rfl dX7_shelve_0 rfl ?_
  refine Go.iload_n 1 2 rfl dX7_shelve_1 rfl ?_
  obtain ⟨r2, er2, hf⟩ := f_bnd hf
  refine Go.cV 5 [.int a1] [] (C_X7_isCard G l n S a0 a1 r2 ha0 er2) rfl dX7_shelve_2 cv_X7_129 ha0 (by decide) (by decide) rfl (Nat.le_of_ble_eq_true rfl) ?_
  refine Go.if_eq 32 8 rfl dX7_shelve_5 rfl (fun hc => ?_) (fun hc => ?_)
  · replace hf := f_if hf hc
    refine Go.iconst (-1 : Int32) 33 rfl dX7_shelve_32 ci_m1 ?_
    exact Go.irS rfl dX7_shelve_33 hf
  · replace hf := f_el hf hc
    refine Go.iload_n 2 9 rfl dX7_shelve_8 rfl ?_
    refine Go.i2l 10 rfl dX7_shelve_9 ?_
    refine Go.lconst (0 : Int64) 11 rfl dX7_shelve_10 cl_0 ?_
    refine Go.ldc2 (3 : Int64) 14 rfl dX7_shelve_11 (am_mem 949 (by decide +kernel) rfl) ?_
    obtain ⟨r14, er14, hf⟩ := f_bnd hf
    refine Go.cS 17 [.long a2.toInt64, .long (0 : Int64), .long (3 : Int64)] [] (C_X7_in G l n S a2.toInt64 (0 : Int64) (3 : Int64) r14  er14) rfl dX7_shelve_14 cx_X7_66 (by decide) (by decide) rfl (Nat.le_of_ble_eq_true rfl) ?_
    refine Go.if_eq 32 20 rfl dX7_shelve_17 rfl (fun hc => ?_) (fun hc => ?_)
    · replace hf := f_if hf hc
      refine Go.iconst (-1 : Int32) 33 rfl dX7_shelve_32 ci_m1 ?_
      exact Go.irS rfl dX7_shelve_33 hf
    · replace hf := f_el hf hc
      refine Go.aload_n 0 21 rfl dX7_shelve_20 rfl ?_
      refine Go.bipush (17 : Int32) 23 rfl dX7_shelve_21 cb_17 ?_
      refine Go.iload_n 1 24 rfl dX7_shelve_23 rfl ?_
      refine Go.iadd 25 rfl dX7_shelve_24 ?_
      refine Go.iload_n 2 26 rfl dX7_shelve_25 rfl ?_
      obtain ⟨r26, S26, er26, hf⟩ := f_bn2 hf
      refine Go.cV 29 [.int ((17 : Int32) + a1), .int a2] [] (C_X7_puts G l n S a0 ((17 : Int32) + a1) a2 r26 S26 ha0 er26) rfl dX7_shelve_26 cv_X7_142 ha0 (by decide) (by decide) rfl (Nat.le_of_ble_eq_true rfl) ?_
      refine Go.goto 33 dX7_shelve_29 rfl ?_
      exact Go.irS rfl dX7_shelve_33 hf
theorem dX7_age_0 : decode cX7_age 0 = .ok (.aload_n 0, 1) := by decide +kernel
theorem dX7_age_1 : decode cX7_age 1 = .ok (.iload_n 1, 1) := by decide +kernel
theorem dX7_age_2 : decode cX7_age 2 = .ok (.invokevirtual 129, 3) := by decide +kernel
theorem dX7_age_5 : decode cX7_age 5 = .ok (.ifCond .eq 27, 3) := by decide +kernel
theorem dX7_age_8 : decode cX7_age 8 = .ok (.iload_n 2, 1) := by decide +kernel
theorem dX7_age_9 : decode cX7_age 9 = .ok (.i2l, 1) := by decide +kernel
theorem dX7_age_10 : decode cX7_age 10 = .ok (.lconst 0, 1) := by decide +kernel
theorem dX7_age_11 : decode cX7_age 11 = .ok (.ldc2_w 145, 3) := by decide +kernel
theorem dX7_age_14 : decode cX7_age 14 = .ok (.invokestatic 66, 3) := by decide +kernel
theorem dX7_age_17 : decode cX7_age 17 = .ok (.ifCond .eq 15, 3) := by decide +kernel
theorem dX7_age_20 : decode cX7_age 20 = .ok (.aload_n 0, 1) := by decide +kernel
theorem dX7_age_21 : decode cX7_age 21 = .ok (.bipush 24, 2) := by decide +kernel
theorem dX7_age_23 : decode cX7_age 23 = .ok (.iload_n 1, 1) := by decide +kernel
theorem dX7_age_24 : decode cX7_age 24 = .ok (.iadd, 1) := by decide +kernel
theorem dX7_age_25 : decode cX7_age 25 = .ok (.iload_n 2, 1) := by decide +kernel
theorem dX7_age_26 : decode cX7_age 26 = .ok (.invokevirtual 142, 3) := by decide +kernel
theorem dX7_age_29 : decode cX7_age 29 = .ok (.goto 4, 3) := by decide +kernel
theorem dX7_age_32 : decode cX7_age 32 = .ok (.iconst (-1), 1) := by decide +kernel
theorem dX7_age_33 : decode cX7_age 33 = .ok (.ireturn, 1) := by decide +kernel
def F_X7_age (n : Nat) (S : aSt) (a0 : Nat) (a1 : Int32) (a2 : Int32) : Option (Int32 × aSt) :=
(F_X7_isCard n S a0 a1).bind fun r2 =>
if r2 = 0 then (some ((-1 : Int32), S)) else
(F_X7_in n S a2.toInt64 (0 : Int64) (9 : Int64)).bind fun r14 =>
if r14 = 0 then (some ((-1 : Int32), S)) else
bn2 (F_X7_puts n S a0 ((24 : Int32) + a1) a2) fun r26 S26 =>
some (r26, S26)
set_option maxHeartbeats 4000000 in
set_option maxRecDepth 100000 in
theorem C_X7_age (G : aG) (l : Launch) (n : Nat) (S : aSt) (a0 : Nat) (a1 : Int32) (a2 : Int32) (r : Int32) (Sr : aSt) (ha0 : isT a0 6 = true) (hf : F_X7_age n S a0 a1 a2 = some (r, Sr)) : Ctr G l yX7_age mX7_age (rmM 3) 97 97 S [.ref a0, .int a1, .int a2] (some (.int r)) Sr := by
  refine Ctr.of (by decide) rfl rfl (Nat.le_of_ble_eq_true rfl) [(0, .ref a0), (1, .int a1), (2, .int a2)] rfl ?_
  unfold F_X7_age at hf
  refine Go.aload_n 0 1 rfl dX7_age_0 rfl ?_
  refine Go.iload_n 1 2 rfl dX7_age_1 rfl ?_
  obtain ⟨r2, er2, hf⟩ := f_bnd hf
  refine Go.cV 5 [.int a1] [] (C_X7_isCard G l n S a0 a1 r2 ha0 er2) rfl dX7_age_2 cv_X7_129 ha0 (by decide) (by decide) rfl (Nat.le_of_ble_eq_true rfl) ?_
  refine Go.if_eq 32 8 rfl dX7_age_5 rfl (fun hc => ?_) (fun hc => ?_)
  · replace hf := f_if hf hc
    refine Go.iconst (-1 : Int32) 33 rfl dX7_age_32 ci_m1 ?_
    exact Go.irS rfl dX7_age_33 hf
  · replace hf := f_el hf hc
    refine Go.iload_n 2 9 rfl dX7_age_8 rfl ?_
    refine Go.i2l 10 rfl dX7_age_9 ?_
    refine Go.lconst (0 : Int64) 11 rfl dX7_age_10 cl_0 ?_
    refine Go.ldc2 (9 : Int64) 14 rfl dX7_age_11 (am_mem 1045 (by decide +kernel) rfl) ?_
    obtain ⟨r14, er14, hf⟩ := f_bnd hf
    refine Go.cS 17 [.long a2.toInt64, .long (0 : Int64), .long (9 : Int64)] [] (C_X7_in G l n S a2.toInt64 (0 : Int64) (9 : Int64) r14  er14) rfl dX7_age_14 cx_X7_66 (by decide) (by decide) rfl (Nat.le_of_ble_eq_true rfl) ?_
    refine Go.if_eq 32 20 rfl dX7_age_17 rfl (fun hc => ?_) (fun hc => ?_)
    · replace hf := f_if hf hc
      refine Go.iconst (-1 : Int32) 33 rfl dX7_age_32 ci_m1 ?_
      exact Go.irS rfl dX7_age_33 hf
    · replace hf := f_el hf hc
      refine Go.aload_n 0 21 rfl dX7_age_20 rfl ?_
      refine Go.bipush (24 : Int32) 23 rfl dX7_age_21 cb_24 ?_
      refine Go.iload_n 1 24 rfl dX7_age_23 rfl ?_
      refine Go.iadd 25 rfl dX7_age_24 ?_
      refine Go.iload_n 2 26 rfl dX7_age_25 rfl ?_
      obtain ⟨r26, S26, er26, hf⟩ := f_bn2 hf
      refine Go.cV 29 [.int ((24 : Int32) + a1), .int a2] [] (C_X7_puts G l n S a0 ((24 : Int32) + a1) a2 r26 S26 ha0 er26) rfl dX7_age_26 cv_X7_142 ha0 (by decide) (by decide) rfl (Nat.le_of_ble_eq_true rfl) ?_
      refine Go.goto 33 dX7_age_29 rfl ?_
      exact Go.irS rfl dX7_age_33 hf
theorem dX7_truth_0 : decode cX7_truth 0 = .ok (.aload_n 0, 1) := by decide +kernel
theorem dX7_truth_1 : decode cX7_truth 1 = .ok (.iload_n 1, 1) := by decide +kernel
theorem dX7_truth_2 : decode cX7_truth 2 = .ok (.invokevirtual 136, 3) := by decide +kernel
theorem dX7_truth_5 : decode cX7_truth 5 = .ok (.ifCond .eq 33, 3) := by decide +kernel
theorem dX7_truth_8 : decode cX7_truth 8 = .ok (.iload_n 2, 1) := by decide +kernel
theorem dX7_truth_9 : decode cX7_truth 9 = .ok (.bipush (-9), 2) := by decide +kernel
theorem dX7_truth_11 : decode cX7_truth 11 = .ok (.if_icmp .eq 15, 3) := by decide +kernel
theorem dX7_truth_14 : decode cX7_truth 14 = .ok (.iload_n 2, 1) := by decide +kernel
theorem dX7_truth_15 : decode cX7_truth 15 = .ok (.i2l, 1) := by decide +kernel
theorem dX7_truth_16 : decode cX7_truth 16 = .ok (.lconst 0, 1) := by decide +kernel
theorem dX7_truth_17 : decode cX7_truth 17 = .ok (.ldc2_w 145, 3) := by decide +kernel
theorem dX7_truth_20 : decode cX7_truth 20 = .ok (.invokestatic 66, 3) := by decide +kernel
theorem dX7_truth_23 : decode cX7_truth 23 = .ok (.ifCond .eq 15, 3) := by decide +kernel
theorem dX7_truth_26 : decode cX7_truth 26 = .ok (.aload_n 0, 1) := by decide +kernel
theorem dX7_truth_27 : decode cX7_truth 27 = .ok (.bipush 59, 2) := by decide +kernel
theorem dX7_truth_29 : decode cX7_truth 29 = .ok (.iload_n 1, 1) := by decide +kernel
theorem dX7_truth_30 : decode cX7_truth 30 = .ok (.iadd, 1) := by decide +kernel
theorem dX7_truth_31 : decode cX7_truth 31 = .ok (.iload_n 2, 1) := by decide +kernel
theorem dX7_truth_32 : decode cX7_truth 32 = .ok (.invokevirtual 142, 3) := by decide +kernel
theorem dX7_truth_35 : decode cX7_truth 35 = .ok (.goto 4, 3) := by decide +kernel
theorem dX7_truth_38 : decode cX7_truth 38 = .ok (.iconst (-1), 1) := by decide +kernel
theorem dX7_truth_39 : decode cX7_truth 39 = .ok (.ireturn, 1) := by decide +kernel
def F_X7_truth (n : Nat) (S : aSt) (a0 : Nat) (a1 : Int32) (a2 : Int32) : Option (Int32 × aSt) :=
(F_X7_isQuestion n S a0 a1).bind fun r2 =>
if r2 = 0 then (some ((-1 : Int32), S)) else
jn ((bn2 (F_X7_puts n S a0 ((59 : Int32) + a1) a2) fun r32 S32 =>
some (r32, S32) : Option (Int32 × aSt))) fun K26 =>
if a2 = (-9 : Int32) then (K26) else
(F_X7_in n S a2.toInt64 (0 : Int64) (9 : Int64)).bind fun r20 =>
if r20 = 0 then (some ((-1 : Int32), S)) else
K26
set_option maxHeartbeats 4000000 in
set_option maxRecDepth 100000 in
theorem C_X7_truth (G : aG) (l : Launch) (n : Nat) (S : aSt) (a0 : Nat) (a1 : Int32) (a2 : Int32) (r : Int32) (Sr : aSt) (ha0 : isT a0 6 = true) (hf : F_X7_truth n S a0 a1 a2 = some (r, Sr)) : Ctr G l yX7_truth mX7_truth (rmM 3) 97 97 S [.ref a0, .int a1, .int a2] (some (.int r)) Sr := by
  refine Ctr.of (by decide) rfl rfl (Nat.le_of_ble_eq_true rfl) [(0, .ref a0), (1, .int a1), (2, .int a2)] rfl ?_
  unfold F_X7_truth at hf
  refine Go.aload_n 0 1 rfl dX7_truth_0 rfl ?_
  refine Go.iload_n 1 2 rfl dX7_truth_1 rfl ?_
  obtain ⟨r2, er2, hf⟩ := f_bnd hf
  refine Go.cV 5 [.int a1] [] (C_X7_isQuestion G l n S a0 a1 r2 ha0 er2) rfl dX7_truth_2 cv_X7_136 ha0 (by decide) (by decide) rfl (Nat.le_of_ble_eq_true rfl) ?_
  refine Go.if_eq 38 8 rfl dX7_truth_5 rfl (fun hc => ?_) (fun hc => ?_)
  · replace hf := f_if hf hc
    refine Go.iconst (-1 : Int32) 39 rfl dX7_truth_38 ci_m1 ?_
    exact Go.irS rfl dX7_truth_39 hf
  · replace hf := f_el hf hc
    refine Go.iload_n 2 9 rfl dX7_truth_8 rfl ?_
    refine Go.bipush (-9 : Int32) 11 rfl dX7_truth_9 cb_m9 ?_
    obtain ⟨K26, eK26, hf⟩ := f_jn hf
    have J26 : K26 = some (r, Sr) → GoM G l 3 (TmR G (some (.int r)) 97 Sr 0 0) mX7_truth 26 [(0, .ref a0), (1, .int a1), (2, .int a2)] [] S := by
      intro hf
      rw [eK26] at hf
      refine Go.aload_n 0 27 rfl dX7_truth_26 rfl ?_
      refine Go.bipush (59 : Int32) 29 rfl dX7_truth_27 cb_59 ?_
      refine Go.iload_n 1 30 rfl dX7_truth_29 rfl ?_
      refine Go.iadd 31 rfl dX7_truth_30 ?_
      refine Go.iload_n 2 32 rfl dX7_truth_31 rfl ?_
      obtain ⟨r32, S32, er32, hf⟩ := f_bn2 hf
      refine Go.cV 35 [.int ((59 : Int32) + a1), .int a2] [] (C_X7_puts G l n S a0 ((59 : Int32) + a1) a2 r32 S32 ha0 er32) rfl dX7_truth_32 cv_X7_142 ha0 (by decide) (by decide) rfl (Nat.le_of_ble_eq_true rfl) ?_
      refine Go.goto 39 dX7_truth_35 rfl ?_
      exact Go.irS rfl dX7_truth_39 hf
    clear eK26
    refine Go.icmp_eq 26 14 rfl dX7_truth_11 rfl (fun hc => ?_) (fun hc => ?_)
    · replace hf := f_if hf hc
      exact J26 hf
    · replace hf := f_el hf hc
      refine Go.iload_n 2 15 rfl dX7_truth_14 rfl ?_
      refine Go.i2l 16 rfl dX7_truth_15 ?_
      refine Go.lconst (0 : Int64) 17 rfl dX7_truth_16 cl_0 ?_
      refine Go.ldc2 (9 : Int64) 20 rfl dX7_truth_17 (am_mem 1045 (by decide +kernel) rfl) ?_
      obtain ⟨r20, er20, hf⟩ := f_bnd hf
      refine Go.cS 23 [.long a2.toInt64, .long (0 : Int64), .long (9 : Int64)] [] (C_X7_in G l n S a2.toInt64 (0 : Int64) (9 : Int64) r20  er20) rfl dX7_truth_20 cx_X7_66 (by decide) (by decide) rfl (Nat.le_of_ble_eq_true rfl) ?_
      refine Go.if_eq 38 26 rfl dX7_truth_23 rfl (fun hc => ?_) (fun hc => ?_)
      · replace hf := f_if hf hc
        refine Go.iconst (-1 : Int32) 39 rfl dX7_truth_38 ci_m1 ?_
        exact Go.irS rfl dX7_truth_39 hf
      · replace hf := f_el hf hc
        exact J26 hf
theorem dX7_fits_0 : decode cX7_fits 0 = .ok (.aload_n 0, 1) := by decide +kernel
theorem dX7_fits_1 : decode cX7_fits 1 = .ok (.iload_n 1, 1) := by decide +kernel
theorem dX7_fits_2 : decode cX7_fits 2 = .ok (.invokevirtual 136, 3) := by decide +kernel
theorem dX7_fits_5 : decode cX7_fits 5 = .ok (.ifCond .ne 5, 3) := by decide +kernel
theorem dX7_fits_8 : decode cX7_fits 8 = .ok (.iconst (-1), 1) := by decide +kernel
theorem dX7_fits_9 : decode cX7_fits 9 = .ok (.ireturn, 1) := by decide +kernel
theorem dX7_fits_10 : decode cX7_fits 10 = .ok (.iconst 0, 1) := by decide +kernel
theorem dX7_fits_11 : decode cX7_fits 11 = .ok (.istore_n 2, 1) := by decide +kernel
theorem dX7_fits_12 : decode cX7_fits 12 = .ok (.iconst 0, 1) := by decide +kernel
theorem dX7_fits_13 : decode cX7_fits 13 = .ok (.istore_n 3, 1) := by decide +kernel
theorem dX7_fits_14 : decode cX7_fits 14 = .ok (.iload_n 3, 1) := by decide +kernel
theorem dX7_fits_15 : decode cX7_fits 15 = .ok (.aload_n 0, 1) := by decide +kernel
theorem dX7_fits_16 : decode cX7_fits 16 = .ok (.getfield 22, 3) := by decide +kernel
theorem dX7_fits_19 : decode cX7_fits 19 = .ok (.iconst 0, 1) := by decide +kernel
theorem dX7_fits_20 : decode cX7_fits 20 = .ok (.iaload, 1) := by decide +kernel
theorem dX7_fits_21 : decode cX7_fits 21 = .ok (.if_icmp .ge 28, 3) := by decide +kernel
theorem dX7_fits_24 : decode cX7_fits 24 = .ok (.iload_n 2, 1) := by decide +kernel
theorem dX7_fits_25 : decode cX7_fits 25 = .ok (.aload_n 0, 1) := by decide +kernel
theorem dX7_fits_26 : decode cX7_fits 26 = .ok (.iload_n 1, 1) := by decide +kernel
theorem dX7_fits_27 : decode cX7_fits 27 = .ok (.iload_n 3, 1) := by decide +kernel
theorem dX7_fits_28 : decode cX7_fits 28 = .ok (.invokevirtual 139, 3) := by decide +kernel
theorem dX7_fits_31 : decode cX7_fits 31 = .ok (.ifCond .eq 9, 3) := by decide +kernel
theorem dX7_fits_34 : decode cX7_fits 34 = .ok (.iconst 1, 1) := by decide +kernel
theorem dX7_fits_35 : decode cX7_fits 35 = .ok (.iload_n 3, 1) := by decide +kernel
theorem dX7_fits_36 : decode cX7_fits 36 = .ok (.ishl, 1) := by decide +kernel
theorem dX7_fits_37 : decode cX7_fits 37 = .ok (.goto 4, 3) := by decide +kernel
theorem dX7_fits_40 : decode cX7_fits 40 = .ok (.iconst 0, 1) := by decide +kernel
theorem dX7_fits_41 : decode cX7_fits 41 = .ok (.ior, 1) := by decide +kernel
theorem dX7_fits_42 : decode cX7_fits 42 = .ok (.istore_n 2, 1) := by decide +kernel
theorem dX7_fits_43 : decode cX7_fits 43 = .ok (.iinc 3 1, 3) := by decide +kernel
theorem dX7_fits_46 : decode cX7_fits 46 = .ok (.goto (-32), 3) := by decide +kernel
theorem dX7_fits_49 : decode cX7_fits 49 = .ok (.iload_n 2, 1) := by decide +kernel
theorem dX7_fits_50 : decode cX7_fits 50 = .ok (.ireturn, 1) := by decide +kernel
def F_X7_fits_L14 (n : Nat) (S : aSt) (a0 : Nat) (a1 : Int32) (K49 : Int32 → Option Int32) : Nat → Int32 → Int32 → Option Int32
  | 0, _, _ => none
  | fu + 1, l14_2, l14_3 =>
    rfd (S.2.2 a0 4) 7 fun k16 =>
    grd (inb (0 : Int32) (SH k16).2) <|
    if (S.1 k16 (0 : Int32).toNatClampNeg) ≤ l14_3 then (K49 l14_2) else
    (F_X7_isFit n S a0 a1 l14_3).bind fun r28 =>
    jn (fun (j41s1 : Int32) => (nm (l14_2 ||| j41s1) fun v42 =>
    F_X7_fits_L14 n S a0 a1 K49 fu v42 (l14_3 + (1 : Int32)) : Option Int32)) fun K41 =>
    if r28 = 0 then (K41 (0 : Int32)) else
    K41 ((1 : Int32) <<< (l14_3 &&& 31))
def F_X7_fits (n : Nat) (S : aSt) (a0 : Nat) (a1 : Int32) : Option Int32 :=
(F_X7_isQuestion n S a0 a1).bind fun r2 =>
if r2 = 0 then (some (-1 : Int32)) else
jn (fun (x49_2 : Int32) => (some x49_2 : Option Int32)) fun K49 =>
F_X7_fits_L14 n S a0 a1 K49 n (0 : Int32) (0 : Int32)
set_option maxHeartbeats 4000000 in
set_option maxRecDepth 100000 in
theorem C_X7_fits (G : aG) (l : Launch) (n : Nat) (S : aSt) (a0 : Nat) (a1 : Int32) (r : Int32) (ha0 : isT a0 6 = true) (hf : F_X7_fits n S a0 a1 = some r) : Ctr G l yX7_fits mX7_fits (rmM 4) 97 97 S [.ref a0, .int a1] (some (.int r)) S := by
  refine Ctr.of (by decide) rfl rfl (Nat.le_of_ble_eq_true rfl) [(0, .ref a0), (1, .int a1)] rfl ?_
  unfold F_X7_fits at hf
  refine Go.aload_n 0 1 rfl dX7_fits_0 rfl ?_
  refine Go.iload_n 1 2 rfl dX7_fits_1 rfl ?_
  obtain ⟨r2, er2, hf⟩ := f_bnd hf
  refine Go.cV 5 [.int a1] [] (C_X7_isQuestion G l n S a0 a1 r2 ha0 er2) rfl dX7_fits_2 cv_X7_136 ha0 (by decide) (by decide) rfl (Nat.le_of_ble_eq_true rfl) ?_
  refine Go.if_ne 10 8 rfl dX7_fits_5 rfl (fun hc => ?_) (fun hc => ?_)
  · replace hf := f_el hf hc
    refine Go.iconst (0 : Int32) 11 rfl dX7_fits_10 ci_0 ?_
    refine Go.istore_n 12 [(2, .int (0 : Int32)), (0, .ref a0), (1, .int a1)] rfl dX7_fits_11 (by decide) rfl ?_
    refine Go.iconst (0 : Int32) 13 rfl dX7_fits_12 ci_0 ?_
    refine Go.istore_n 14 [(3, .int (0 : Int32)), (2, .int (0 : Int32)), (0, .ref a0), (1, .int a1)] rfl dX7_fits_13 (by decide) rfl ?_
    obtain ⟨K49, eK49, hf⟩ := f_jn hf
    have J49 : ∀ (x49_2 : Int32), K49 x49_2 = some r → GoM G l 4 (TmR G (some (.int r)) 97 S 0 0) mX7_fits 49 [(2, .int x49_2)] [] S := by
      intro x49_2 hf
      rw [eK49] at hf
      refine Go.iload_n 0 50 rfl dX7_fits_49 rfl ?_
      exact Go.ir rfl dX7_fits_50 hf
    clear eK49
    have L14 : ∀ (fu : Nat) (l14_2 : Int32) (l14_3 : Int32), F_X7_fits_L14 n S a0 a1 K49 fu l14_2 l14_3 = some r → GoM G l 4 (TmR G (some (.int r)) 97 S 0 0) mX7_fits 14 [(0, .ref a0), (1, .int a1), (2, .int l14_2), (3, .int l14_3)] [] S := by
      intro fu
      induction fu with
      | zero => intro l14_2 l14_3 hf; rw [F_X7_fits_L14] at hf; cases hf
      | succ fu ih =>
        intro l14_2 l14_3 hf
        rw [F_X7_fits_L14] at hf
        refine Go.iload_n 3 15 rfl dX7_fits_14 rfl ?_
        refine Go.aload_n 0 16 rfl dX7_fits_15 rfl ?_
        obtain ⟨k16, qk16, hk16, hf⟩ := f_rfd hf
        refine Go.getR 19 rfl dX7_fits_16 fl_X7_22 rfl (isT_lt ha0) (isT_sh ha0) qk16 ?_
        refine Go.iconst (0 : Int32) 20 rfl dX7_fits_19 ci_0 ?_
        obtain ⟨g20, hf⟩ := f_grd hf
        refine Go.iald 21 rfl dX7_fits_20 (isT_lt hk16) (isT_sh hk16) g20 ?_
        refine Go.icmp_ge 49 24 rfl dX7_fits_21 rfl (fun hc => ?_) (fun hc => ?_)
        · replace hf := f_if hf hc
          exact Go.sub [2] [(2, .int l14_2)] rfl (J49 l14_2 hf)
        · replace hf := f_el hf hc
          refine Go.iload_n 2 25 rfl dX7_fits_24 rfl ?_
          refine Go.aload_n 0 26 rfl dX7_fits_25 rfl ?_
          refine Go.iload_n 1 27 rfl dX7_fits_26 rfl ?_
          refine Go.iload_n 3 28 rfl dX7_fits_27 rfl ?_
          obtain ⟨r28, er28, hf⟩ := f_bnd hf
          refine Go.cV 31 [.int a1, .int l14_3] [.int l14_2] (C_X7_isFit G l n S a0 a1 l14_3 r28 ha0 er28) rfl dX7_fits_28 cv_X7_139 ha0 (by decide) (by decide) rfl (Nat.le_of_ble_eq_true rfl) ?_
          obtain ⟨K41, eK41, hf⟩ := f_jn hf
          have J41 : ∀ (j41s1 : Int32), K41 j41s1 = some r → GoM G l 4 (TmR G (some (.int r)) 97 S 0 0) mX7_fits 41 [(0, .ref a0), (1, .int a1), (3, .int l14_3)] [.int j41s1, .int l14_2] S := by
            intro j41s1 hf
            rw [eK41] at hf
            refine Go.ior 42 rfl dX7_fits_41 ?_
            obtain ⟨v42, ev42, hf⟩ := f_nm hf
            refine Go.topi v42 ev42 ?_
            refine Go.istore_n 43 [(2, .int v42), (0, .ref a0), (1, .int a1), (3, .int l14_3)] rfl dX7_fits_42 (by decide) rfl ?_
            refine Go.inc 3 46 (1 : Int32) [(3, .int (l14_3 + (1 : Int32))), (2, .int v42), (0, .ref a0), (1, .int a1)] rfl dX7_fits_43 rfl ci_1 (by decide) rfl ?_
            refine Go.goto 14 dX7_fits_46 rfl ?_
            exact Go.sub [2, 3, 1, 0] [(0, .ref a0), (1, .int a1), (2, .int v42), (3, .int (l14_3 + (1 : Int32)))] rfl (ih v42 (l14_3 + (1 : Int32)) hf)
          clear eK41
          refine Go.if_eq 40 34 rfl dX7_fits_31 rfl (fun hc => ?_) (fun hc => ?_)
          · replace hf := f_if hf hc
            refine Go.iconst (0 : Int32) 41 rfl dX7_fits_40 ci_0 ?_
            exact Go.sub [0, 1, 3] [(0, .ref a0), (1, .int a1), (3, .int l14_3)] rfl (J41 (0 : Int32) hf)
          · replace hf := f_el hf hc
            refine Go.iconst (1 : Int32) 35 rfl dX7_fits_34 ci_1 ?_
            refine Go.iload_n 3 36 rfl dX7_fits_35 rfl ?_
            refine Go.ishl 37 rfl dX7_fits_36 ?_
            refine Go.goto 41 dX7_fits_37 rfl ?_
            exact Go.sub [0, 1, 3] [(0, .ref a0), (1, .int a1), (3, .int l14_3)] rfl (J41 ((1 : Int32) <<< (l14_3 &&& 31)) hf)
    exact Go.sub [2, 3, 1, 0] [(0, .ref a0), (1, .int a1), (2, .int (0 : Int32)), (3, .int (0 : Int32))] rfl (L14 n (0 : Int32) (0 : Int32) hf)
  · replace hf := f_if hf hc
    refine Go.iconst (-1 : Int32) 9 rfl dX7_fits_8 ci_m1 ?_
    exact Go.ir rfl dX7_fits_9 hf
theorem dX7_isFreeCard_0 : decode cX7_isFreeCard 0 = .ok (.aload_n 0, 1) := by decide +kernel
theorem dX7_isFreeCard_1 : decode cX7_isFreeCard 1 = .ok (.iload_n 1, 1) := by decide +kernel
theorem dX7_isFreeCard_2 : decode cX7_isFreeCard 2 = .ok (.invokevirtual 126, 3) := by decide +kernel
theorem dX7_isFreeCard_5 : decode cX7_isFreeCard 5 = .ok (.bipush (-9), 2) := by decide +kernel
theorem dX7_isFreeCard_7 : decode cX7_isFreeCard 7 = .ok (.if_icmp .ne 7, 3) := by decide +kernel
theorem dX7_isFreeCard_10 : decode cX7_isFreeCard 10 = .ok (.iconst 1, 1) := by decide +kernel
theorem dX7_isFreeCard_11 : decode cX7_isFreeCard 11 = .ok (.goto 4, 3) := by decide +kernel
theorem dX7_isFreeCard_14 : decode cX7_isFreeCard 14 = .ok (.iconst 0, 1) := by decide +kernel
theorem dX7_isFreeCard_15 : decode cX7_isFreeCard 15 = .ok (.ireturn, 1) := by decide +kernel
def F_X7_isFreeCard (n : Nat) (S : aSt) (a0 : Nat) (a1 : Int32) : Option Int32 :=
(F_X7_answers n S a0 a1).bind fun r2 =>
if r2 = (-9 : Int32) then (some (1 : Int32)) else
some (0 : Int32)
set_option maxHeartbeats 4000000 in
set_option maxRecDepth 100000 in
theorem C_X7_isFreeCard (G : aG) (l : Launch) (n : Nat) (S : aSt) (a0 : Nat) (a1 : Int32) (r : Int32) (ha0 : isT a0 6 = true) (hf : F_X7_isFreeCard n S a0 a1 = some r) : Ctr G l yX7_isFreeCard mX7_isFreeCard (rmM 2) 97 97 S [.ref a0, .int a1] (some (.int r)) S := by
  refine Ctr.of (by decide) rfl rfl (Nat.le_of_ble_eq_true rfl) [(0, .ref a0), (1, .int a1)] rfl ?_
  unfold F_X7_isFreeCard at hf
  refine Go.aload_n 0 1 rfl dX7_isFreeCard_0 rfl ?_
  refine Go.iload_n 1 2 rfl dX7_isFreeCard_1 rfl ?_
  obtain ⟨r2, er2, hf⟩ := f_bnd hf
  refine Go.cV 5 [.int a1] [] (C_X7_answers G l n S a0 a1 r2 ha0 er2) rfl dX7_isFreeCard_2 cv_X7_126 ha0 (by decide) (by decide) rfl (Nat.le_of_ble_eq_true rfl) ?_
  refine Go.bipush (-9 : Int32) 7 rfl dX7_isFreeCard_5 cb_m9 ?_
  refine Go.icmp_ne 14 10 rfl dX7_isFreeCard_7 rfl (fun hc => ?_) (fun hc => ?_)
  · replace hf := f_el hf hc
    refine Go.iconst (0 : Int32) 15 rfl dX7_isFreeCard_14 ci_0 ?_
    exact Go.zr rfl (Or.inl rfl) dX7_isFreeCard_15 hf
  · replace hf := f_if hf hc
    refine Go.iconst (1 : Int32) 11 rfl dX7_isFreeCard_10 ci_1 ?_
    refine Go.goto 15 dX7_isFreeCard_11 rfl ?_
    exact Go.zr rfl (Or.inr rfl) dX7_isFreeCard_15 hf
theorem dX7_isFree_0 : decode cX7_isFree 0 = .ok (.aload_n 0, 1) := by decide +kernel
theorem dX7_isFree_1 : decode cX7_isFree 1 = .ok (.getfield 22, 3) := by decide +kernel
theorem dX7_isFree_4 : decode cX7_isFree 4 = .ok (.bipush 66, 2) := by decide +kernel
theorem dX7_isFree_6 : decode cX7_isFree 6 = .ok (.iload_n 1, 1) := by decide +kernel
theorem dX7_isFree_7 : decode cX7_isFree 7 = .ok (.iadd, 1) := by decide +kernel
theorem dX7_isFree_8 : decode cX7_isFree 8 = .ok (.iaload, 1) := by decide +kernel
theorem dX7_isFree_9 : decode cX7_isFree 9 = .ok (.bipush (-9), 2) := by decide +kernel
theorem dX7_isFree_11 : decode cX7_isFree 11 = .ok (.if_icmp .ne 7, 3) := by decide +kernel
theorem dX7_isFree_14 : decode cX7_isFree 14 = .ok (.iconst 1, 1) := by decide +kernel
theorem dX7_isFree_15 : decode cX7_isFree 15 = .ok (.goto 4, 3) := by decide +kernel
theorem dX7_isFree_18 : decode cX7_isFree 18 = .ok (.iconst 0, 1) := by decide +kernel
theorem dX7_isFree_19 : decode cX7_isFree 19 = .ok (.ireturn, 1) := by decide +kernel
def F_X7_isFree (n : Nat) (S : aSt) (a0 : Nat) (a1 : Int32) : Option Int32 :=
rfd (S.2.2 a0 4) 7 fun k1 =>
grd (inb ((66 : Int32) + a1) (SH k1).2) <|
if (S.1 k1 ((66 : Int32) + a1).toNatClampNeg) = (-9 : Int32) then (some (1 : Int32)) else
some (0 : Int32)
set_option maxHeartbeats 4000000 in
set_option maxRecDepth 100000 in
theorem C_X7_isFree (G : aG) (l : Launch) (n : Nat) (S : aSt) (a0 : Nat) (a1 : Int32) (r : Int32) (ha0 : isT a0 6 = true) (hf : F_X7_isFree n S a0 a1 = some r) : Ctr G l yX7_isFree mX7_isFree (rmM 1) 97 97 S [.ref a0, .int a1] (some (.int r)) S := by
  refine Ctr.of (by decide) rfl rfl (Nat.le_of_ble_eq_true rfl) [(0, .ref a0), (1, .int a1)] rfl ?_
  unfold F_X7_isFree at hf
  refine Go.aload_n 0 1 rfl dX7_isFree_0 rfl ?_
  obtain ⟨k1, qk1, hk1, hf⟩ := f_rfd hf
  refine Go.getR 4 rfl dX7_isFree_1 fl_X7_22 rfl (isT_lt ha0) (isT_sh ha0) qk1 ?_
  refine Go.bipush (66 : Int32) 6 rfl dX7_isFree_4 cb_66 ?_
  refine Go.iload_n 1 7 rfl dX7_isFree_6 rfl ?_
  refine Go.iadd 8 rfl dX7_isFree_7 ?_
  obtain ⟨g8, hf⟩ := f_grd hf
  refine Go.iald 9 rfl dX7_isFree_8 (isT_lt hk1) (isT_sh hk1) g8 ?_
  refine Go.bipush (-9 : Int32) 11 rfl dX7_isFree_9 cb_m9 ?_
  refine Go.icmp_ne 18 14 rfl dX7_isFree_11 rfl (fun hc => ?_) (fun hc => ?_)
  · replace hf := f_el hf hc
    refine Go.iconst (0 : Int32) 19 rfl dX7_isFree_18 ci_0 ?_
    exact Go.zr rfl (Or.inl rfl) dX7_isFree_19 hf
  · replace hf := f_if hf hc
    refine Go.iconst (1 : Int32) 15 rfl dX7_isFree_14 ci_1 ?_
    refine Go.goto 19 dX7_isFree_15 rfl ?_
    exact Go.zr rfl (Or.inr rfl) dX7_isFree_19 hf
theorem dX7_takesIt_0 : decode cX7_takesIt 0 = .ok (.aload_n 0, 1) := by decide +kernel
theorem dX7_takesIt_1 : decode cX7_takesIt 1 = .ok (.getfield 22, 3) := by decide +kernel
theorem dX7_takesIt_4 : decode cX7_takesIt 4 = .ok (.iconst 2, 1) := by decide +kernel
theorem dX7_takesIt_5 : decode cX7_takesIt 5 = .ok (.iaload, 1) := by decide +kernel
theorem dX7_takesIt_6 : decode cX7_takesIt 6 = .ok (.istore_n 3, 1) := by decide +kernel
theorem dX7_takesIt_7 : decode cX7_takesIt 7 = .ok (.iconst 0, 1) := by decide +kernel
theorem dX7_takesIt_8 : decode cX7_takesIt 8 = .ok (.istore 4, 2) := by decide +kernel
theorem dX7_takesIt_10 : decode cX7_takesIt 10 = .ok (.iload 4, 2) := by decide +kernel
theorem dX7_takesIt_12 : decode cX7_takesIt 12 = .ok (.bipush 7, 2) := by decide +kernel
theorem dX7_takesIt_14 : decode cX7_takesIt 14 = .ok (.if_icmp .ge 34, 3) := by decide +kernel
theorem dX7_takesIt_17 : decode cX7_takesIt 17 = .ok (.aload_n 0, 1) := by decide +kernel
theorem dX7_takesIt_18 : decode cX7_takesIt 18 = .ok (.getfield 22, 3) := by decide +kernel
theorem dX7_takesIt_21 : decode cX7_takesIt 21 = .ok (.bipush 113, 2) := by decide +kernel
theorem dX7_takesIt_23 : decode cX7_takesIt 23 = .ok (.bipush 7, 2) := by decide +kernel
theorem dX7_takesIt_25 : decode cX7_takesIt 25 = .ok (.iload_n 3, 1) := by decide +kernel
theorem dX7_takesIt_26 : decode cX7_takesIt 26 = .ok (.imul, 1) := by decide +kernel
theorem dX7_takesIt_27 : decode cX7_takesIt 27 = .ok (.iadd, 1) := by decide +kernel
theorem dX7_takesIt_28 : decode cX7_takesIt 28 = .ok (.iload 4, 2) := by decide +kernel
theorem dX7_takesIt_30 : decode cX7_takesIt 30 = .ok (.iadd, 1) := by decide +kernel
theorem dX7_takesIt_31 : decode cX7_takesIt 31 = .ok (.aload_n 0, 1) := by decide +kernel
theorem dX7_takesIt_32 : decode cX7_takesIt 32 = .ok (.getfield 22, 3) := by decide +kernel
theorem dX7_takesIt_35 : decode cX7_takesIt 35 = .ok (.bipush 66, 2) := by decide +kernel
theorem dX7_takesIt_37 : decode cX7_takesIt 37 = .ok (.iload 4, 2) := by decide +kernel
theorem dX7_takesIt_39 : decode cX7_takesIt 39 = .ok (.iadd, 1) := by decide +kernel
theorem dX7_takesIt_40 : decode cX7_takesIt 40 = .ok (.iaload, 1) := by decide +kernel
theorem dX7_takesIt_41 : decode cX7_takesIt 41 = .ok (.iastore, 1) := by decide +kernel
theorem dX7_takesIt_42 : decode cX7_takesIt 42 = .ok (.iinc 4 1, 3) := by decide +kernel
theorem dX7_takesIt_45 : decode cX7_takesIt 45 = .ok (.goto (-35), 3) := by decide +kernel
theorem dX7_takesIt_48 : decode cX7_takesIt 48 = .ok (.aload_n 0, 1) := by decide +kernel
theorem dX7_takesIt_49 : decode cX7_takesIt 49 = .ok (.getfield 22, 3) := by decide +kernel
theorem dX7_takesIt_52 : decode cX7_takesIt 52 = .ok (.bipush 73, 2) := by decide +kernel
theorem dX7_takesIt_54 : decode cX7_takesIt 54 = .ok (.iload_n 3, 1) := by decide +kernel
theorem dX7_takesIt_55 : decode cX7_takesIt 55 = .ok (.iadd, 1) := by decide +kernel
theorem dX7_takesIt_56 : decode cX7_takesIt 56 = .ok (.bipush 10, 2) := by decide +kernel
theorem dX7_takesIt_58 : decode cX7_takesIt 58 = .ok (.iload_n 1, 1) := by decide +kernel
theorem dX7_takesIt_59 : decode cX7_takesIt 59 = .ok (.imul, 1) := by decide +kernel
theorem dX7_takesIt_60 : decode cX7_takesIt 60 = .ok (.iload_n 2, 1) := by decide +kernel
theorem dX7_takesIt_61 : decode cX7_takesIt 61 = .ok (.iadd, 1) := by decide +kernel
theorem dX7_takesIt_62 : decode cX7_takesIt 62 = .ok (.iastore, 1) := by decide +kernel
theorem dX7_takesIt_63 : decode cX7_takesIt 63 = .ok (.aload_n 0, 1) := by decide +kernel
theorem dX7_takesIt_64 : decode cX7_takesIt 64 = .ok (.getfield 22, 3) := by decide +kernel
theorem dX7_takesIt_67 : decode cX7_takesIt 67 = .ok (.bipush 66, 2) := by decide +kernel
theorem dX7_takesIt_69 : decode cX7_takesIt 69 = .ok (.iload_n 1, 1) := by decide +kernel
theorem dX7_takesIt_70 : decode cX7_takesIt 70 = .ok (.iadd, 1) := by decide +kernel
theorem dX7_takesIt_71 : decode cX7_takesIt 71 = .ok (.iload_n 2, 1) := by decide +kernel
theorem dX7_takesIt_72 : decode cX7_takesIt 72 = .ok (.iastore, 1) := by decide +kernel
theorem dX7_takesIt_73 : decode cX7_takesIt 73 = .ok (.aload_n 0, 1) := by decide +kernel
theorem dX7_takesIt_74 : decode cX7_takesIt 74 = .ok (.getfield 22, 3) := by decide +kernel
theorem dX7_takesIt_77 : decode cX7_takesIt 77 = .ok (.iconst 2, 1) := by decide +kernel
theorem dX7_takesIt_78 : decode cX7_takesIt 78 = .ok (.dup2, 1) := by decide +kernel
theorem dX7_takesIt_79 : decode cX7_takesIt 79 = .ok (.iaload, 1) := by decide +kernel
theorem dX7_takesIt_80 : decode cX7_takesIt 80 = .ok (.iconst 1, 1) := by decide +kernel
theorem dX7_takesIt_81 : decode cX7_takesIt 81 = .ok (.iadd, 1) := by decide +kernel
theorem dX7_takesIt_82 : decode cX7_takesIt 82 = .ok (.iastore, 1) := by decide +kernel
theorem dX7_takesIt_83 : decode cX7_takesIt 83 = .ok (.return_, 1) := by decide +kernel
def F_X7_takesIt_L10 (a0 : Nat) (v6 : Int32) (K48 : aSt → Option aSt) : Nat → Int32 → aSt → Option aSt
  | 0, _, _ => none
  | fu + 1, l10_4, l10S =>
    if (7 : Int32) ≤ l10_4 then (K48 l10S) else
    rfd (l10S.2.2 a0 4) 7 fun k18 =>
    grd (inb ((66 : Int32) + l10_4) (SH k18).2) <|
    grd (inb (((113 : Int32) + ((7 : Int32) * v6)) + l10_4) (SH k18).2) <|
    nm (stI l10S k18 (((113 : Int32) + ((7 : Int32) * v6)) + l10_4).toNatClampNeg (l10S.1 k18 ((66 : Int32) + l10_4).toNatClampNeg)) fun S41 =>
    F_X7_takesIt_L10 a0 v6 K48 fu (l10_4 + (1 : Int32)) S41
def F_X7_takesIt (n : Nat) (S : aSt) (a0 : Nat) (a1 : Int32) (a2 : Int32) : Option aSt :=
rfd (S.2.2 a0 4) 7 fun k1 =>
grd (inb (2 : Int32) (SH k1).2) <|
nm (S.1 k1 (2 : Int32).toNatClampNeg) fun v6 =>
jn (fun (x48S : aSt) => (rfd (x48S.2.2 a0 4) 7 fun k49 =>
grd (inb ((73 : Int32) + v6) (SH k49).2) <|
nm (stI x48S k49 ((73 : Int32) + v6).toNatClampNeg (((10 : Int32) * a1) + a2)) fun S62 =>
rfd (S62.2.2 a0 4) 7 fun k64 =>
grd (inb ((66 : Int32) + a1) (SH k64).2) <|
nm (stI S62 k64 ((66 : Int32) + a1).toNatClampNeg a2) fun S72 =>
rfd (S72.2.2 a0 4) 7 fun k74 =>
grd (inb (2 : Int32) (SH k74).2) <|
grd (inb (2 : Int32) (SH k74).2) <|
nm (stI S72 k74 (2 : Int32).toNatClampNeg ((S72.1 k74 (2 : Int32).toNatClampNeg) + (1 : Int32))) fun S82 =>
some S82 : Option aSt)) fun K48 =>
F_X7_takesIt_L10 a0 v6 K48 n (0 : Int32) S
set_option maxHeartbeats 4000000 in
set_option maxRecDepth 100000 in
theorem C_X7_takesIt (G : aG) (l : Launch) (n : Nat) (S : aSt) (a0 : Nat) (a1 : Int32) (a2 : Int32) (Sr : aSt) (ha0 : isT a0 6 = true) (hf : F_X7_takesIt n S a0 a1 a2 = some Sr) : Ctr G l yX7_takesIt mX7_takesIt (rmM 1) 97 97 S [.ref a0, .int a1, .int a2] none Sr := by
  refine Ctr.of (by decide) rfl rfl (Nat.le_of_ble_eq_true rfl) [(0, .ref a0), (1, .int a1), (2, .int a2)] rfl ?_
  unfold F_X7_takesIt at hf
  refine Go.aload_n 0 1 rfl dX7_takesIt_0 rfl ?_
  obtain ⟨k1, qk1, hk1, hf⟩ := f_rfd hf
  refine Go.getR 4 rfl dX7_takesIt_1 fl_X7_22 rfl (isT_lt ha0) (isT_sh ha0) qk1 ?_
  refine Go.iconst (2 : Int32) 5 rfl dX7_takesIt_4 ci_2 ?_
  obtain ⟨g5, hf⟩ := f_grd hf
  refine Go.iald 6 rfl dX7_takesIt_5 (isT_lt hk1) (isT_sh hk1) g5 ?_
  obtain ⟨v6, ev6, hf⟩ := f_nm hf
  refine Go.topi v6 ev6 ?_
  refine Go.istore_n 7 [(3, .int v6), (0, .ref a0), (1, .int a1), (2, .int a2)] rfl dX7_takesIt_6 (by decide) rfl ?_
  refine Go.iconst (0 : Int32) 8 rfl dX7_takesIt_7 ci_0 ?_
  refine Go.istore 10 [(4, .int (0 : Int32)), (3, .int v6), (0, .ref a0), (1, .int a1), (2, .int a2)] rfl dX7_takesIt_8 (by decide) rfl ?_
  obtain ⟨K48, eK48, hf⟩ := f_jn hf
  have J48 : ∀ (x48S : aSt), K48 x48S = some Sr → GoM G l 1 (TmR G none 97 Sr 0 0) mX7_takesIt 48 [(0, .ref a0), (1, .int a1), (2, .int a2), (3, .int v6)] [] x48S := by
    intro x48S hf
    rw [eK48] at hf
    refine Go.aload_n 0 49 rfl dX7_takesIt_48 rfl ?_
    obtain ⟨k49, qk49, hk49, hf⟩ := f_rfd hf
    refine Go.getR 52 rfl dX7_takesIt_49 fl_X7_22 rfl (isT_lt ha0) (isT_sh ha0) qk49 ?_
    refine Go.bipush (73 : Int32) 54 rfl dX7_takesIt_52 cb_73 ?_
    refine Go.iload_n 3 55 rfl dX7_takesIt_54 rfl ?_
    refine Go.iadd 56 rfl dX7_takesIt_55 ?_
    refine Go.bipush (10 : Int32) 58 rfl dX7_takesIt_56 cb_10 ?_
    refine Go.iload_n 1 59 rfl dX7_takesIt_58 rfl ?_
    refine Go.imul 60 rfl dX7_takesIt_59 ?_
    refine Go.iload_n 2 61 rfl dX7_takesIt_60 rfl ?_
    refine Go.iadd 62 rfl dX7_takesIt_61 ?_
    obtain ⟨g62, hf⟩ := f_grd hf
    obtain ⟨S62, eS62, hf⟩ := f_nm hf
    refine Go.iast 63 rfl dX7_takesIt_62 (isT_lt hk49) (isT_sh hk49) g62 (Go.stt S62 eS62 ?_)
    refine Go.aload_n 0 64 rfl dX7_takesIt_63 rfl ?_
    obtain ⟨k64, qk64, hk64, hf⟩ := f_rfd hf
    refine Go.getR 67 rfl dX7_takesIt_64 fl_X7_22 rfl (isT_lt ha0) (isT_sh ha0) qk64 ?_
    refine Go.bipush (66 : Int32) 69 rfl dX7_takesIt_67 cb_66 ?_
    refine Go.iload_n 1 70 rfl dX7_takesIt_69 rfl ?_
    refine Go.iadd 71 rfl dX7_takesIt_70 ?_
    refine Go.iload_n 2 72 rfl dX7_takesIt_71 rfl ?_
    obtain ⟨g72, hf⟩ := f_grd hf
    obtain ⟨S72, eS72, hf⟩ := f_nm hf
    refine Go.iast 73 rfl dX7_takesIt_72 (isT_lt hk64) (isT_sh hk64) g72 (Go.stt S72 eS72 ?_)
    refine Go.aload_n 0 74 rfl dX7_takesIt_73 rfl ?_
    obtain ⟨k74, qk74, hk74, hf⟩ := f_rfd hf
    refine Go.getR 77 rfl dX7_takesIt_74 fl_X7_22 rfl (isT_lt ha0) (isT_sh ha0) qk74 ?_
    refine Go.iconst (2 : Int32) 78 rfl dX7_takesIt_77 ci_2 ?_
    refine Go.dup2 79 rfl dX7_takesIt_78 rfl rfl ?_
    obtain ⟨g79, hf⟩ := f_grd hf
    refine Go.iald 80 rfl dX7_takesIt_79 (isT_lt hk74) (isT_sh hk74) g79 ?_
    refine Go.iconst (1 : Int32) 81 rfl dX7_takesIt_80 ci_1 ?_
    refine Go.iadd 82 rfl dX7_takesIt_81 ?_
    obtain ⟨g82, hf⟩ := f_grd hf
    obtain ⟨S82, eS82, hf⟩ := f_nm hf
    refine Go.iast 83 rfl dX7_takesIt_82 (isT_lt hk74) (isT_sh hk74) g82 (Go.stt S82 eS82 ?_)
    exact Go.vr rfl dX7_takesIt_83 hf
  clear eK48
  have L10 : ∀ (fu : Nat) (l10_4 : Int32) (l10S : aSt), F_X7_takesIt_L10 a0 v6 K48 fu l10_4 l10S = some Sr → GoM G l 1 (TmR G none 97 Sr 0 0) mX7_takesIt 10 [(0, .ref a0), (1, .int a1), (2, .int a2), (3, .int v6), (4, .int l10_4)] [] l10S := by
    intro fu
    induction fu with
    | zero => intro l10_4 l10S hf; rw [F_X7_takesIt_L10] at hf; cases hf
    | succ fu ih =>
      intro l10_4 l10S hf
      rw [F_X7_takesIt_L10] at hf
      refine Go.iload 4 12 rfl dX7_takesIt_10 rfl ?_
      refine Go.bipush (7 : Int32) 14 rfl dX7_takesIt_12 cb_7 ?_
      refine Go.icmp_ge 48 17 rfl dX7_takesIt_14 rfl (fun hc => ?_) (fun hc => ?_)
      · replace hf := f_if hf hc
        exact Go.sub [0, 1, 2, 3] [(0, .ref a0), (1, .int a1), (2, .int a2), (3, .int v6)] rfl (J48 l10S hf)
      · replace hf := f_el hf hc
        refine Go.aload_n 0 18 rfl dX7_takesIt_17 rfl ?_
        obtain ⟨k18, qk18, hk18, hf⟩ := f_rfd hf
        refine Go.getR 21 rfl dX7_takesIt_18 fl_X7_22 rfl (isT_lt ha0) (isT_sh ha0) qk18 ?_
        refine Go.bipush (113 : Int32) 23 rfl dX7_takesIt_21 cb_113 ?_
        refine Go.bipush (7 : Int32) 25 rfl dX7_takesIt_23 cb_7 ?_
        refine Go.iload_n 3 26 rfl dX7_takesIt_25 rfl ?_
        refine Go.imul 27 rfl dX7_takesIt_26 ?_
        refine Go.iadd 28 rfl dX7_takesIt_27 ?_
        refine Go.iload 4 30 rfl dX7_takesIt_28 rfl ?_
        refine Go.iadd 31 rfl dX7_takesIt_30 ?_
        refine Go.aload_n 0 32 rfl dX7_takesIt_31 rfl ?_
        refine Go.getR 35 rfl dX7_takesIt_32 fl_X7_22 rfl (isT_lt ha0) (isT_sh ha0) qk18 ?_
        refine Go.bipush (66 : Int32) 37 rfl dX7_takesIt_35 cb_66 ?_
        refine Go.iload 4 39 rfl dX7_takesIt_37 rfl ?_
        refine Go.iadd 40 rfl dX7_takesIt_39 ?_
        obtain ⟨g40, hf⟩ := f_grd hf
        refine Go.iald 41 rfl dX7_takesIt_40 (isT_lt hk18) (isT_sh hk18) g40 ?_
        obtain ⟨g41, hf⟩ := f_grd hf
        obtain ⟨S41, eS41, hf⟩ := f_nm hf
        refine Go.iast 42 rfl dX7_takesIt_41 (isT_lt hk18) (isT_sh hk18) g41 (Go.stt S41 eS41 ?_)
        refine Go.inc 4 45 (1 : Int32) [(4, .int (l10_4 + (1 : Int32))), (0, .ref a0), (1, .int a1), (2, .int a2), (3, .int v6)] rfl dX7_takesIt_42 rfl ci_1 (by decide) rfl ?_
        refine Go.goto 10 dX7_takesIt_45 rfl ?_
        exact Go.sub [1, 2, 3, 4, 0] [(0, .ref a0), (1, .int a1), (2, .int a2), (3, .int v6), (4, .int (l10_4 + (1 : Int32)))] rfl (ih (l10_4 + (1 : Int32)) S41 hf)
  exact Go.sub [2, 3, 4, 1, 0] [(0, .ref a0), (1, .int a1), (2, .int a2), (3, .int v6), (4, .int (0 : Int32))] rfl (L10 n (0 : Int32) S hf)
theorem dX7_stands_0 : decode cX7_stands 0 = .ok (.aload_n 0, 1) := by decide +kernel
theorem dX7_stands_1 : decode cX7_stands 1 = .ok (.getfield 22, 3) := by decide +kernel
theorem dX7_stands_4 : decode cX7_stands 4 = .ok (.bipush 59, 2) := by decide +kernel
theorem dX7_stands_6 : decode cX7_stands 6 = .ok (.iload_n 1, 1) := by decide +kernel
theorem dX7_stands_7 : decode cX7_stands 7 = .ok (.iadd, 1) := by decide +kernel
theorem dX7_stands_8 : decode cX7_stands 8 = .ok (.iaload, 1) := by decide +kernel
theorem dX7_stands_9 : decode cX7_stands 9 = .ok (.bipush (-9), 2) := by decide +kernel
theorem dX7_stands_11 : decode cX7_stands 11 = .ok (.if_icmp .ne 7, 3) := by decide +kernel
theorem dX7_stands_14 : decode cX7_stands 14 = .ok (.iconst 2, 1) := by decide +kernel
theorem dX7_stands_15 : decode cX7_stands 15 = .ok (.goto 33, 3) := by decide +kernel
theorem dX7_stands_18 : decode cX7_stands 18 = .ok (.aload_n 0, 1) := by decide +kernel
theorem dX7_stands_19 : decode cX7_stands 19 = .ok (.aload_n 0, 1) := by decide +kernel
theorem dX7_stands_20 : decode cX7_stands 20 = .ok (.getfield 22, 3) := by decide +kernel
theorem dX7_stands_23 : decode cX7_stands 23 = .ok (.bipush 66, 2) := by decide +kernel
theorem dX7_stands_25 : decode cX7_stands 25 = .ok (.iload_n 1, 1) := by decide +kernel
theorem dX7_stands_26 : decode cX7_stands 26 = .ok (.iadd, 1) := by decide +kernel
theorem dX7_stands_27 : decode cX7_stands 27 = .ok (.iaload, 1) := by decide +kernel
theorem dX7_stands_28 : decode cX7_stands 28 = .ok (.invokevirtual 120, 3) := by decide +kernel
theorem dX7_stands_31 : decode cX7_stands 31 = .ok (.aload_n 0, 1) := by decide +kernel
theorem dX7_stands_32 : decode cX7_stands 32 = .ok (.getfield 22, 3) := by decide +kernel
theorem dX7_stands_35 : decode cX7_stands 35 = .ok (.bipush 59, 2) := by decide +kernel
theorem dX7_stands_37 : decode cX7_stands 37 = .ok (.iload_n 1, 1) := by decide +kernel
theorem dX7_stands_38 : decode cX7_stands 38 = .ok (.iadd, 1) := by decide +kernel
theorem dX7_stands_39 : decode cX7_stands 39 = .ok (.iaload, 1) := by decide +kernel
theorem dX7_stands_40 : decode cX7_stands 40 = .ok (.if_icmp .ne 7, 3) := by decide +kernel
theorem dX7_stands_43 : decode cX7_stands 43 = .ok (.iconst 1, 1) := by decide +kernel
theorem dX7_stands_44 : decode cX7_stands 44 = .ok (.goto 4, 3) := by decide +kernel
theorem dX7_stands_47 : decode cX7_stands 47 = .ok (.iconst 0, 1) := by decide +kernel
theorem dX7_stands_48 : decode cX7_stands 48 = .ok (.ireturn, 1) := by decide +kernel
def F_X7_stands (n : Nat) (S : aSt) (a0 : Nat) (a1 : Int32) : Option Int32 :=
rfd (S.2.2 a0 4) 7 fun k1 =>
grd (inb ((59 : Int32) + a1) (SH k1).2) <|
if (S.1 k1 ((59 : Int32) + a1).toNatClampNeg) = (-9 : Int32) then (some (2 : Int32)) else
grd (inb ((66 : Int32) + a1) (SH k1).2) <|
(F_X7_means n S a0 (S.1 k1 ((66 : Int32) + a1).toNatClampNeg)).bind fun r28 =>
grd (inb ((59 : Int32) + a1) (SH k1).2) <|
if r28 = (S.1 k1 ((59 : Int32) + a1).toNatClampNeg) then (some (1 : Int32)) else
some (0 : Int32)
set_option maxHeartbeats 4000000 in
set_option maxRecDepth 100000 in
theorem C_X7_stands (G : aG) (l : Launch) (n : Nat) (S : aSt) (a0 : Nat) (a1 : Int32) (r : Int32) (ha0 : isT a0 6 = true) (hf : F_X7_stands n S a0 a1 = some r) : Ctr G l yX7_stands mX7_stands (rmM 2) 97 97 S [.ref a0, .int a1] (some (.int r)) S := by
  refine Ctr.of (by decide) rfl rfl (Nat.le_of_ble_eq_true rfl) [(0, .ref a0), (1, .int a1)] rfl ?_
  unfold F_X7_stands at hf
  refine Go.aload_n 0 1 rfl dX7_stands_0 rfl ?_
  obtain ⟨k1, qk1, hk1, hf⟩ := f_rfd hf
  refine Go.getR 4 rfl dX7_stands_1 fl_X7_22 rfl (isT_lt ha0) (isT_sh ha0) qk1 ?_
  refine Go.bipush (59 : Int32) 6 rfl dX7_stands_4 cb_59 ?_
  refine Go.iload_n 1 7 rfl dX7_stands_6 rfl ?_
  refine Go.iadd 8 rfl dX7_stands_7 ?_
  obtain ⟨g8, hf⟩ := f_grd hf
  refine Go.iald 9 rfl dX7_stands_8 (isT_lt hk1) (isT_sh hk1) g8 ?_
  refine Go.bipush (-9 : Int32) 11 rfl dX7_stands_9 cb_m9 ?_
  refine Go.icmp_ne 18 14 rfl dX7_stands_11 rfl (fun hc => ?_) (fun hc => ?_)
  · replace hf := f_el hf hc
    refine Go.aload_n 0 19 rfl dX7_stands_18 rfl ?_
    refine Go.aload_n 0 20 rfl dX7_stands_19 rfl ?_
    refine Go.getR 23 rfl dX7_stands_20 fl_X7_22 rfl (isT_lt ha0) (isT_sh ha0) qk1 ?_
    refine Go.bipush (66 : Int32) 25 rfl dX7_stands_23 cb_66 ?_
    refine Go.iload_n 1 26 rfl dX7_stands_25 rfl ?_
    refine Go.iadd 27 rfl dX7_stands_26 ?_
    obtain ⟨g27, hf⟩ := f_grd hf
    refine Go.iald 28 rfl dX7_stands_27 (isT_lt hk1) (isT_sh hk1) g27 ?_
    obtain ⟨r28, er28, hf⟩ := f_bnd hf
    refine Go.cV 31 [.int (S.1 k1 ((66 : Int32) + a1).toNatClampNeg)] [] (C_X7_means G l n S a0 (S.1 k1 ((66 : Int32) + a1).toNatClampNeg) r28 ha0 er28) rfl dX7_stands_28 cv_X7_120 ha0 (by decide) (by decide) rfl (Nat.le_of_ble_eq_true rfl) ?_
    refine Go.aload_n 0 32 rfl dX7_stands_31 rfl ?_
    refine Go.getR 35 rfl dX7_stands_32 fl_X7_22 rfl (isT_lt ha0) (isT_sh ha0) qk1 ?_
    refine Go.bipush (59 : Int32) 37 rfl dX7_stands_35 cb_59 ?_
    refine Go.iload_n 1 38 rfl dX7_stands_37 rfl ?_
    refine Go.iadd 39 rfl dX7_stands_38 ?_
    obtain ⟨g39, hf⟩ := f_grd hf
    refine Go.iald 40 rfl dX7_stands_39 (isT_lt hk1) (isT_sh hk1) g39 ?_
    refine Go.icmp_ne 47 43 rfl dX7_stands_40 rfl (fun hc => ?_) (fun hc => ?_)
    · replace hf := f_el hf hc
      refine Go.iconst (0 : Int32) 48 rfl dX7_stands_47 ci_0 ?_
      exact Go.ir rfl dX7_stands_48 hf
    · replace hf := f_if hf hc
      refine Go.iconst (1 : Int32) 44 rfl dX7_stands_43 ci_1 ?_
      refine Go.goto 48 dX7_stands_44 rfl ?_
      exact Go.ir rfl dX7_stands_48 hf
  · replace hf := f_if hf hc
    refine Go.iconst (2 : Int32) 15 rfl dX7_stands_14 ci_2 ?_
    refine Go.goto 48 dX7_stands_15 rfl ?_
    exact Go.ir rfl dX7_stands_48 hf
theorem dX7_take_0 : decode cX7_take 0 = .ok (.aload_n 0, 1) := by decide +kernel
theorem dX7_take_1 : decode cX7_take 1 = .ok (.iload_n 1, 1) := by decide +kernel
theorem dX7_take_2 : decode cX7_take 2 = .ok (.invokevirtual 136, 3) := by decide +kernel
theorem dX7_take_5 : decode cX7_take 5 = .ok (.ifCond .eq 11, 3) := by decide +kernel
theorem dX7_take_8 : decode cX7_take 8 = .ok (.aload_n 0, 1) := by decide +kernel
theorem dX7_take_9 : decode cX7_take 9 = .ok (.iload_n 2, 1) := by decide +kernel
theorem dX7_take_10 : decode cX7_take 10 = .ok (.invokevirtual 129, 3) := by decide +kernel
theorem dX7_take_13 : decode cX7_take 13 = .ok (.ifCond .ne 5, 3) := by decide +kernel
theorem dX7_take_16 : decode cX7_take 16 = .ok (.iconst (-1), 1) := by decide +kernel
theorem dX7_take_17 : decode cX7_take 17 = .ok (.ireturn, 1) := by decide +kernel
theorem dX7_take_18 : decode cX7_take 18 = .ok (.aload_n 0, 1) := by decide +kernel
theorem dX7_take_19 : decode cX7_take 19 = .ok (.iload_n 1, 1) := by decide +kernel
theorem dX7_take_20 : decode cX7_take 20 = .ok (.iload_n 2, 1) := by decide +kernel
theorem dX7_take_21 : decode cX7_take 21 = .ok (.invokevirtual 139, 3) := by decide +kernel
theorem dX7_take_24 : decode cX7_take 24 = .ok (.ifCond .eq 19, 3) := by decide +kernel
theorem dX7_take_27 : decode cX7_take 27 = .ok (.aload_n 0, 1) := by decide +kernel
theorem dX7_take_28 : decode cX7_take 28 = .ok (.iload_n 1, 1) := by decide +kernel
theorem dX7_take_29 : decode cX7_take 29 = .ok (.invokevirtual 147, 3) := by decide +kernel
theorem dX7_take_32 : decode cX7_take 32 = .ok (.ifCond .eq 11, 3) := by decide +kernel
theorem dX7_take_35 : decode cX7_take 35 = .ok (.aload_n 0, 1) := by decide +kernel
theorem dX7_take_36 : decode cX7_take 36 = .ok (.iload_n 2, 1) := by decide +kernel
theorem dX7_take_37 : decode cX7_take 37 = .ok (.invokevirtual 150, 3) := by decide +kernel
theorem dX7_take_40 : decode cX7_take 40 = .ok (.ifCond .ne 6, 3) := by decide +kernel
theorem dX7_take_43 : decode cX7_take 43 = .ok (.bipush (-4), 2) := by decide +kernel
theorem dX7_take_45 : decode cX7_take 45 = .ok (.ireturn, 1) := by decide +kernel
theorem dX7_take_46 : decode cX7_take 46 = .ok (.aload_n 0, 1) := by decide +kernel
theorem dX7_take_47 : decode cX7_take 47 = .ok (.getfield 22, 3) := by decide +kernel
theorem dX7_take_50 : decode cX7_take 50 = .ok (.iconst 2, 1) := by decide +kernel
theorem dX7_take_51 : decode cX7_take 51 = .ok (.iaload, 1) := by decide +kernel
theorem dX7_take_52 : decode cX7_take 52 = .ok (.bipush 40, 2) := by decide +kernel
theorem dX7_take_54 : decode cX7_take 54 = .ok (.if_icmp .ne 6, 3) := by decide +kernel
theorem dX7_take_57 : decode cX7_take 57 = .ok (.bipush (-2), 2) := by decide +kernel
theorem dX7_take_59 : decode cX7_take 59 = .ok (.ireturn, 1) := by decide +kernel
theorem dX7_take_60 : decode cX7_take 60 = .ok (.aload_n 0, 1) := by decide +kernel
theorem dX7_take_61 : decode cX7_take 61 = .ok (.iload_n 1, 1) := by decide +kernel
theorem dX7_take_62 : decode cX7_take 62 = .ok (.iload_n 2, 1) := by decide +kernel
theorem dX7_take_63 : decode cX7_take 63 = .ok (.invokevirtual 153, 3) := by decide +kernel
theorem dX7_take_66 : decode cX7_take 66 = .ok (.aload_n 0, 1) := by decide +kernel
theorem dX7_take_67 : decode cX7_take 67 = .ok (.iload_n 1, 1) := by decide +kernel
theorem dX7_take_68 : decode cX7_take 68 = .ok (.invokevirtual 157, 3) := by decide +kernel
theorem dX7_take_71 : decode cX7_take 71 = .ok (.ireturn, 1) := by decide +kernel
def F_X7_take (n : Nat) (S : aSt) (a0 : Nat) (a1 : Int32) (a2 : Int32) : Option (Int32 × aSt) :=
(F_X7_isQuestion n S a0 a1).bind fun r2 =>
if r2 = 0 then (some ((-1 : Int32), S)) else
(F_X7_isCard n S a0 a2).bind fun r10 =>
if r10 = 0 then (some ((-1 : Int32), S)) else
(F_X7_isFit n S a0 a1 a2).bind fun r21 =>
if r21 = 0 then (some ((-4 : Int32), S)) else
(F_X7_isFree n S a0 a1).bind fun r29 =>
if r29 = 0 then (some ((-4 : Int32), S)) else
(F_X7_isFreeCard n S a0 a2).bind fun r37 =>
if r37 = 0 then (some ((-4 : Int32), S)) else
rfd (S.2.2 a0 4) 7 fun k47 =>
grd (inb (2 : Int32) (SH k47).2) <|
if (S.1 k47 (2 : Int32).toNatClampNeg) = (40 : Int32) then (some ((-2 : Int32), S)) else
(F_X7_takesIt n S a0 a1 a2).bind fun S63 =>
(F_X7_stands n S63 a0 a1).bind fun r68 =>
some (r68, S63)
set_option maxHeartbeats 4000000 in
set_option maxRecDepth 100000 in
theorem C_X7_take (G : aG) (l : Launch) (n : Nat) (S : aSt) (a0 : Nat) (a1 : Int32) (a2 : Int32) (r : Int32) (Sr : aSt) (ha0 : isT a0 6 = true) (hf : F_X7_take n S a0 a1 a2 = some (r, Sr)) : Ctr G l yX7_take mX7_take (rmM 4) 97 97 S [.ref a0, .int a1, .int a2] (some (.int r)) Sr := by
  refine Ctr.of (by decide) rfl rfl (Nat.le_of_ble_eq_true rfl) [(0, .ref a0), (1, .int a1), (2, .int a2)] rfl ?_
  unfold F_X7_take at hf
  refine Go.aload_n 0 1 rfl dX7_take_0 rfl ?_
  refine Go.iload_n 1 2 rfl dX7_take_1 rfl ?_
  obtain ⟨r2, er2, hf⟩ := f_bnd hf
  refine Go.cV 5 [.int a1] [] (C_X7_isQuestion G l n S a0 a1 r2 ha0 er2) rfl dX7_take_2 cv_X7_136 ha0 (by decide) (by decide) rfl (Nat.le_of_ble_eq_true rfl) ?_
  refine Go.if_eq 16 8 rfl dX7_take_5 rfl (fun hc => ?_) (fun hc => ?_)
  · replace hf := f_if hf hc
    refine Go.iconst (-1 : Int32) 17 rfl dX7_take_16 ci_m1 ?_
    exact Go.irS rfl dX7_take_17 hf
  · replace hf := f_el hf hc
    refine Go.aload_n 0 9 rfl dX7_take_8 rfl ?_
    refine Go.iload_n 2 10 rfl dX7_take_9 rfl ?_
    obtain ⟨r10, er10, hf⟩ := f_bnd hf
    refine Go.cV 13 [.int a2] [] (C_X7_isCard G l n S a0 a2 r10 ha0 er10) rfl dX7_take_10 cv_X7_129 ha0 (by decide) (by decide) rfl (Nat.le_of_ble_eq_true rfl) ?_
    refine Go.if_ne 18 16 rfl dX7_take_13 rfl (fun hc => ?_) (fun hc => ?_)
    · replace hf := f_el hf hc
      refine Go.aload_n 0 19 rfl dX7_take_18 rfl ?_
      refine Go.iload_n 1 20 rfl dX7_take_19 rfl ?_
      refine Go.iload_n 2 21 rfl dX7_take_20 rfl ?_
      obtain ⟨r21, er21, hf⟩ := f_bnd hf
      refine Go.cV 24 [.int a1, .int a2] [] (C_X7_isFit G l n S a0 a1 a2 r21 ha0 er21) rfl dX7_take_21 cv_X7_139 ha0 (by decide) (by decide) rfl (Nat.le_of_ble_eq_true rfl) ?_
      refine Go.if_eq 43 27 rfl dX7_take_24 rfl (fun hc => ?_) (fun hc => ?_)
      · replace hf := f_if hf hc
        refine Go.bipush (-4 : Int32) 45 rfl dX7_take_43 cb_m4 ?_
        exact Go.irS rfl dX7_take_45 hf
      · replace hf := f_el hf hc
        refine Go.aload_n 0 28 rfl dX7_take_27 rfl ?_
        refine Go.iload_n 1 29 rfl dX7_take_28 rfl ?_
        obtain ⟨r29, er29, hf⟩ := f_bnd hf
        refine Go.cV 32 [.int a1] [] (C_X7_isFree G l n S a0 a1 r29 ha0 er29) rfl dX7_take_29 cv_X7_147 ha0 (by decide) (by decide) rfl (Nat.le_of_ble_eq_true rfl) ?_
        refine Go.if_eq 43 35 rfl dX7_take_32 rfl (fun hc => ?_) (fun hc => ?_)
        · replace hf := f_if hf hc
          refine Go.bipush (-4 : Int32) 45 rfl dX7_take_43 cb_m4 ?_
          exact Go.irS rfl dX7_take_45 hf
        · replace hf := f_el hf hc
          refine Go.aload_n 0 36 rfl dX7_take_35 rfl ?_
          refine Go.iload_n 2 37 rfl dX7_take_36 rfl ?_
          obtain ⟨r37, er37, hf⟩ := f_bnd hf
          refine Go.cV 40 [.int a2] [] (C_X7_isFreeCard G l n S a0 a2 r37 ha0 er37) rfl dX7_take_37 cv_X7_150 ha0 (by decide) (by decide) rfl (Nat.le_of_ble_eq_true rfl) ?_
          refine Go.if_ne 46 43 rfl dX7_take_40 rfl (fun hc => ?_) (fun hc => ?_)
          · replace hf := f_el hf hc
            refine Go.aload_n 0 47 rfl dX7_take_46 rfl ?_
            obtain ⟨k47, qk47, hk47, hf⟩ := f_rfd hf
            refine Go.getR 50 rfl dX7_take_47 fl_X7_22 rfl (isT_lt ha0) (isT_sh ha0) qk47 ?_
            refine Go.iconst (2 : Int32) 51 rfl dX7_take_50 ci_2 ?_
            obtain ⟨g51, hf⟩ := f_grd hf
            refine Go.iald 52 rfl dX7_take_51 (isT_lt hk47) (isT_sh hk47) g51 ?_
            refine Go.bipush (40 : Int32) 54 rfl dX7_take_52 cb_40 ?_
            refine Go.icmp_ne 60 57 rfl dX7_take_54 rfl (fun hc => ?_) (fun hc => ?_)
            · replace hf := f_el hf hc
              refine Go.aload_n 0 61 rfl dX7_take_60 rfl ?_
              refine Go.iload_n 1 62 rfl dX7_take_61 rfl ?_
              refine Go.iload_n 2 63 rfl dX7_take_62 rfl ?_
              obtain ⟨S63, eS63, hf⟩ := f_bnd hf
              refine Go.cVv 66 [.int a1, .int a2] [] (C_X7_takesIt G l n S a0 a1 a2 S63 ha0 eS63) rfl dX7_take_63 cv_X7_153 ha0 (by decide) (by decide) rfl (Nat.le_of_ble_eq_true rfl) ?_
              refine Go.aload_n 0 67 rfl dX7_take_66 rfl ?_
              refine Go.iload_n 1 68 rfl dX7_take_67 rfl ?_
              obtain ⟨r68, er68, hf⟩ := f_bnd hf
              refine Go.cV 71 [.int a1] [] (C_X7_stands G l n S63 a0 a1 r68 ha0 er68) rfl dX7_take_68 cv_X7_157 ha0 (by decide) (by decide) rfl (Nat.le_of_ble_eq_true rfl) ?_
              exact Go.irS rfl dX7_take_71 hf
            · replace hf := f_if hf hc
              refine Go.bipush (-2 : Int32) 59 rfl dX7_take_57 cb_m2 ?_
              exact Go.irS rfl dX7_take_59 hf
          · replace hf := f_if hf hc
            refine Go.bipush (-4 : Int32) 45 rfl dX7_take_43 cb_m4 ?_
            exact Go.irS rfl dX7_take_45 hf
    · replace hf := f_if hf hc
      refine Go.iconst (-1 : Int32) 17 rfl dX7_take_16 ci_m1 ?_
      exact Go.irS rfl dX7_take_17 hf
theorem dX7_bring_0 : decode cX7_bring 0 = .ok (.aload_n 0, 1) := by decide +kernel
theorem dX7_bring_1 : decode cX7_bring 1 = .ok (.iload_n 1, 1) := by decide +kernel
theorem dX7_bring_2 : decode cX7_bring 2 = .ok (.invokevirtual 136, 3) := by decide +kernel
theorem dX7_bring_5 : decode cX7_bring 5 = .ok (.ifCond .ne 5, 3) := by decide +kernel
theorem dX7_bring_8 : decode cX7_bring 8 = .ok (.iconst (-1), 1) := by decide +kernel
theorem dX7_bring_9 : decode cX7_bring 9 = .ok (.ireturn, 1) := by decide +kernel
theorem dX7_bring_10 : decode cX7_bring 10 = .ok (.aload_n 0, 1) := by decide +kernel
theorem dX7_bring_11 : decode cX7_bring 11 = .ok (.iload_n 1, 1) := by decide +kernel
theorem dX7_bring_12 : decode cX7_bring 12 = .ok (.invokevirtual 147, 3) := by decide +kernel
theorem dX7_bring_15 : decode cX7_bring 15 = .ok (.ifCond .eq 8, 3) := by decide +kernel
theorem dX7_bring_18 : decode cX7_bring 18 = .ok (.bipush (-4), 2) := by decide +kernel
theorem dX7_bring_20 : decode cX7_bring 20 = .ok (.goto 13, 3) := by decide +kernel
theorem dX7_bring_23 : decode cX7_bring 23 = .ok (.aload_n 0, 1) := by decide +kernel
theorem dX7_bring_24 : decode cX7_bring 24 = .ok (.bipush 66, 2) := by decide +kernel
theorem dX7_bring_26 : decode cX7_bring 26 = .ok (.iload_n 1, 1) := by decide +kernel
theorem dX7_bring_27 : decode cX7_bring 27 = .ok (.iadd, 1) := by decide +kernel
theorem dX7_bring_28 : decode cX7_bring 28 = .ok (.bipush (-9), 2) := by decide +kernel
theorem dX7_bring_30 : decode cX7_bring 30 = .ok (.invokevirtual 142, 3) := by decide +kernel
theorem dX7_bring_33 : decode cX7_bring 33 = .ok (.ireturn, 1) := by decide +kernel
def F_X7_bring (n : Nat) (S : aSt) (a0 : Nat) (a1 : Int32) : Option (Int32 × aSt) :=
(F_X7_isQuestion n S a0 a1).bind fun r2 =>
if r2 = 0 then (some ((-1 : Int32), S)) else
(F_X7_isFree n S a0 a1).bind fun r12 =>
if r12 = 0 then (bn2 (F_X7_puts n S a0 ((66 : Int32) + a1) (-9 : Int32)) fun r30 S30 =>
some (r30, S30)) else
some ((-4 : Int32), S)
set_option maxHeartbeats 4000000 in
set_option maxRecDepth 100000 in
theorem C_X7_bring (G : aG) (l : Launch) (n : Nat) (S : aSt) (a0 : Nat) (a1 : Int32) (r : Int32) (Sr : aSt) (ha0 : isT a0 6 = true) (hf : F_X7_bring n S a0 a1 = some (r, Sr)) : Ctr G l yX7_bring mX7_bring (rmM 3) 97 97 S [.ref a0, .int a1] (some (.int r)) Sr := by
  refine Ctr.of (by decide) rfl rfl (Nat.le_of_ble_eq_true rfl) [(0, .ref a0), (1, .int a1)] rfl ?_
  unfold F_X7_bring at hf
  refine Go.aload_n 0 1 rfl dX7_bring_0 rfl ?_
  refine Go.iload_n 1 2 rfl dX7_bring_1 rfl ?_
  obtain ⟨r2, er2, hf⟩ := f_bnd hf
  refine Go.cV 5 [.int a1] [] (C_X7_isQuestion G l n S a0 a1 r2 ha0 er2) rfl dX7_bring_2 cv_X7_136 ha0 (by decide) (by decide) rfl (Nat.le_of_ble_eq_true rfl) ?_
  refine Go.if_ne 10 8 rfl dX7_bring_5 rfl (fun hc => ?_) (fun hc => ?_)
  · replace hf := f_el hf hc
    refine Go.aload_n 0 11 rfl dX7_bring_10 rfl ?_
    refine Go.iload_n 1 12 rfl dX7_bring_11 rfl ?_
    obtain ⟨r12, er12, hf⟩ := f_bnd hf
    refine Go.cV 15 [.int a1] [] (C_X7_isFree G l n S a0 a1 r12 ha0 er12) rfl dX7_bring_12 cv_X7_147 ha0 (by decide) (by decide) rfl (Nat.le_of_ble_eq_true rfl) ?_
    refine Go.if_eq 23 18 rfl dX7_bring_15 rfl (fun hc => ?_) (fun hc => ?_)
    · replace hf := f_if hf hc
      refine Go.aload_n 0 24 rfl dX7_bring_23 rfl ?_
      refine Go.bipush (66 : Int32) 26 rfl dX7_bring_24 cb_66 ?_
      refine Go.iload_n 1 27 rfl dX7_bring_26 rfl ?_
      refine Go.iadd 28 rfl dX7_bring_27 ?_
      refine Go.bipush (-9 : Int32) 30 rfl dX7_bring_28 cb_m9 ?_
      obtain ⟨r30, S30, er30, hf⟩ := f_bn2 hf
      refine Go.cV 33 [.int ((66 : Int32) + a1), .int (-9 : Int32)] [] (C_X7_puts G l n S a0 ((66 : Int32) + a1) (-9 : Int32) r30 S30 ha0 er30) rfl dX7_bring_30 cv_X7_142 ha0 (by decide) (by decide) rfl (Nat.le_of_ble_eq_true rfl) ?_
      exact Go.irS rfl dX7_bring_33 hf
    · replace hf := f_el hf hc
      refine Go.bipush (-4 : Int32) 20 rfl dX7_bring_18 cb_m4 ?_
      refine Go.goto 33 dX7_bring_20 rfl ?_
      exact Go.irS rfl dX7_bring_33 hf
  · replace hf := f_if hf hc
    refine Go.iconst (-1 : Int32) 9 rfl dX7_bring_8 ci_m1 ?_
    exact Go.irS rfl dX7_bring_9 hf
