/-! written by program: X5_begin X5_questionOf X5_addTaking X5_goBack X5_become -/
theorem dX5_begin_0 : decode cX5_begin 0 = .ok (.aload_n 0, 1) := by decide +kernel
theorem dX5_begin_1 : decode cX5_begin 1 = .ok (.iconst 0, 1) := by decide +kernel
theorem dX5_begin_2 : decode cX5_begin 2 = .ok (.putfield 30, 3) := by decide +kernel
theorem dX5_begin_5 : decode cX5_begin 5 = .ok (.aload_n 0, 1) := by decide +kernel
theorem dX5_begin_6 : decode cX5_begin 6 = .ok (.getfield 18, 3) := by decide +kernel
theorem dX5_begin_9 : decode cX5_begin 9 = .ok (.bipush (-9), 2) := by decide +kernel
theorem dX5_begin_11 : decode cX5_begin 11 = .ok (.invokestatic 34, 3) := by decide +kernel
theorem dX5_begin_14 : decode cX5_begin 14 = .ok (.aload_n 0, 1) := by decide +kernel
theorem dX5_begin_15 : decode cX5_begin 15 = .ok (.getfield 21, 3) := by decide +kernel
theorem dX5_begin_18 : decode cX5_begin 18 = .ok (.bipush (-9), 2) := by decide +kernel
theorem dX5_begin_20 : decode cX5_begin 20 = .ok (.invokestatic 34, 3) := by decide +kernel
theorem dX5_begin_23 : decode cX5_begin 23 = .ok (.return_, 1) := by decide +kernel
def F_X5_begin (n : Nat) (S : aSt) (a0 : Nat) : Option aSt :=
nm (stI S a0 6 (0 : Int32)) fun S2 =>
rfd (S2.2.2 a0 2) 7 fun k6 =>
(F_J7_fill_53178 n S2 k6 (-9 : Int32)).bind fun S11 =>
rfd (S11.2.2 a0 3) 7 fun k15 =>
(F_J7_fill_53178 n S11 k15 (-9 : Int32)).bind fun S20 =>
some S20
set_option maxHeartbeats 4000000 in
set_option maxRecDepth 100000 in
theorem C_X5_begin (G : aG) (l : Launch) (n : Nat) (S : aSt) (a0 : Nat) (Sr : aSt) (ha0 : isT a0 4 = true) (hf : F_X5_begin n S a0 = some Sr) : Ctr G l yX5_begin mX5_begin (rmM 2) 97 97 S [.ref a0] none Sr := by
  refine Ctr.of (by decide) rfl rfl (Nat.le_of_ble_eq_true rfl) [(0, .ref a0)] rfl ?_
  unfold F_X5_begin at hf
  refine Go.aload_n 0 1 rfl dX5_begin_0 rfl ?_
  refine Go.iconst (0 : Int32) 2 rfl dX5_begin_1 ci_0 ?_
  obtain ⟨S2, eS2, hf⟩ := f_nm hf
  refine Go.putI 5 rfl dX5_begin_2 fp_X5_30 rfl (isT_lt ha0) (isT_sh ha0) (fun h => by cases h) (Go.stt S2 eS2 ?_)
  refine Go.aload_n 0 6 rfl dX5_begin_5 rfl ?_
  obtain ⟨k6, qk6, hk6, hf⟩ := f_rfd hf
  refine Go.getR 9 rfl dX5_begin_6 fl_X5_18 rfl (isT_lt ha0) (isT_sh ha0) qk6 ?_
  refine Go.bipush (-9 : Int32) 11 rfl dX5_begin_9 cb_m9 ?_
  obtain ⟨S11, eS11, hf⟩ := f_bnd hf
  refine Go.cSv 14 [.ref k6, .int (-9 : Int32)] [] (C_J7_fill_53178 G l n S2 k6 (-9 : Int32) S11 hk6 eS11) rfl dX5_begin_11 cx_X5_34 (by decide) (by decide) rfl (Nat.le_of_ble_eq_true rfl) ?_
  refine Go.aload_n 0 15 rfl dX5_begin_14 rfl ?_
  obtain ⟨k15, qk15, hk15, hf⟩ := f_rfd hf
  refine Go.getR 18 rfl dX5_begin_15 fl_X5_21 rfl (isT_lt ha0) (isT_sh ha0) qk15 ?_
  refine Go.bipush (-9 : Int32) 20 rfl dX5_begin_18 cb_m9 ?_
  obtain ⟨S20, eS20, hf⟩ := f_bnd hf
  refine Go.cSv 23 [.ref k15, .int (-9 : Int32)] [] (C_J7_fill_53178 G l n S11 k15 (-9 : Int32) S20 hk15 eS20) rfl dX5_begin_20 cx_X5_34 (by decide) (by decide) rfl (Nat.le_of_ble_eq_true rfl) ?_
  exact Go.vr rfl dX5_begin_23 hf
theorem dX5_questionOf_0 : decode cX5_questionOf 0 = .ok (.iconst 0, 1) := by decide +kernel
theorem dX5_questionOf_1 : decode cX5_questionOf 1 = .ok (.istore_n 2, 1) := by decide +kernel
theorem dX5_questionOf_2 : decode cX5_questionOf 2 = .ok (.iload_n 2, 1) := by decide +kernel
theorem dX5_questionOf_3 : decode cX5_questionOf 3 = .ok (.bipush 7, 2) := by decide +kernel
theorem dX5_questionOf_5 : decode cX5_questionOf 5 = .ok (.if_icmp .ge 21, 3) := by decide +kernel
theorem dX5_questionOf_8 : decode cX5_questionOf 8 = .ok (.aload_n 0, 1) := by decide +kernel
theorem dX5_questionOf_9 : decode cX5_questionOf 9 = .ok (.getfield 21, 3) := by decide +kernel
theorem dX5_questionOf_12 : decode cX5_questionOf 12 = .ok (.iload_n 2, 1) := by decide +kernel
theorem dX5_questionOf_13 : decode cX5_questionOf 13 = .ok (.iaload, 1) := by decide +kernel
theorem dX5_questionOf_14 : decode cX5_questionOf 14 = .ok (.iload_n 1, 1) := by decide +kernel
theorem dX5_questionOf_15 : decode cX5_questionOf 15 = .ok (.if_icmp .ne 5, 3) := by decide +kernel
theorem dX5_questionOf_18 : decode cX5_questionOf 18 = .ok (.iload_n 2, 1) := by decide +kernel
theorem dX5_questionOf_19 : decode cX5_questionOf 19 = .ok (.ireturn, 1) := by decide +kernel
theorem dX5_questionOf_20 : decode cX5_questionOf 20 = .ok (.iinc 2 1, 3) := by decide +kernel
theorem dX5_questionOf_23 : decode cX5_questionOf 23 = .ok (.goto (-21), 3) := by decide +kernel
theorem dX5_questionOf_26 : decode cX5_questionOf 26 = .ok (.bipush (-9), 2) := by decide +kernel
theorem dX5_questionOf_28 : decode cX5_questionOf 28 = .ok (.ireturn, 1) := by decide +kernel
def F_X5_questionOf_L2 (S : aSt) (a0 : Nat) (a1 : Int32) (K26 : Option Int32) : Nat → Int32 → Option Int32
  | 0, _ => none
  | fu + 1, l2_2 =>
    if (7 : Int32) ≤ l2_2 then (K26) else
    rfd (S.2.2 a0 3) 7 fun k9 =>
    grd (inb l2_2 (SH k9).2) <|
    if (S.1 k9 l2_2.toNatClampNeg) = a1 then (some l2_2) else
    F_X5_questionOf_L2 S a0 a1 K26 fu (l2_2 + (1 : Int32))
def F_X5_questionOf (n : Nat) (S : aSt) (a0 : Nat) (a1 : Int32) : Option Int32 :=
jn ((some (-9 : Int32) : Option Int32)) fun K26 =>
F_X5_questionOf_L2 S a0 a1 K26 n (0 : Int32)
set_option maxHeartbeats 4000000 in
set_option maxRecDepth 100000 in
theorem C_X5_questionOf (G : aG) (l : Launch) (n : Nat) (S : aSt) (a0 : Nat) (a1 : Int32) (r : Int32) (ha0 : isT a0 4 = true) (hf : F_X5_questionOf n S a0 a1 = some r) : Ctr G l yX5_questionOf mX5_questionOf (rmM 1) 97 97 S [.ref a0, .int a1] (some (.int r)) S := by
  refine Ctr.of (by decide) rfl rfl (Nat.le_of_ble_eq_true rfl) [(0, .ref a0), (1, .int a1)] rfl ?_
  unfold F_X5_questionOf at hf
  refine Go.iconst (0 : Int32) 1 rfl dX5_questionOf_0 ci_0 ?_
  refine Go.istore_n 2 [(2, .int (0 : Int32)), (0, .ref a0), (1, .int a1)] rfl dX5_questionOf_1 (by decide) rfl ?_
  obtain ⟨K26, eK26, hf⟩ := f_jn hf
  have J26 : K26 = some r → GoM G l 1 (TmR G (some (.int r)) 97 S 0 0) mX5_questionOf 26 [] [] S := by
    intro hf
    rw [eK26] at hf
    refine Go.bipush (-9 : Int32) 28 rfl dX5_questionOf_26 cb_m9 ?_
    exact Go.ir rfl dX5_questionOf_28 hf
  clear eK26
  have L2 : ∀ (fu : Nat) (l2_2 : Int32), F_X5_questionOf_L2 S a0 a1 K26 fu l2_2 = some r → GoM G l 1 (TmR G (some (.int r)) 97 S 0 0) mX5_questionOf 2 [(0, .ref a0), (1, .int a1), (2, .int l2_2)] [] S := by
    intro fu
    induction fu with
    | zero => intro l2_2 hf; rw [F_X5_questionOf_L2] at hf; cases hf
    | succ fu ih =>
      intro l2_2 hf
      rw [F_X5_questionOf_L2] at hf
      refine Go.iload_n 2 3 rfl dX5_questionOf_2 rfl ?_
      refine Go.bipush (7 : Int32) 5 rfl dX5_questionOf_3 cb_7 ?_
      refine Go.icmp_ge 26 8 rfl dX5_questionOf_5 rfl (fun hc => ?_) (fun hc => ?_)
      · replace hf := f_if hf hc
        exact Go.sub [] [] rfl (J26 hf)
      · replace hf := f_el hf hc
        refine Go.aload_n 0 9 rfl dX5_questionOf_8 rfl ?_
        obtain ⟨k9, qk9, hk9, hf⟩ := f_rfd hf
        refine Go.getR 12 rfl dX5_questionOf_9 fl_X5_21 rfl (isT_lt ha0) (isT_sh ha0) qk9 ?_
        refine Go.iload_n 2 13 rfl dX5_questionOf_12 rfl ?_
        obtain ⟨g13, hf⟩ := f_grd hf
        refine Go.iald 14 rfl dX5_questionOf_13 (isT_lt hk9) (isT_sh hk9) g13 ?_
        refine Go.iload_n 1 15 rfl dX5_questionOf_14 rfl ?_
        refine Go.icmp_ne 20 18 rfl dX5_questionOf_15 rfl (fun hc => ?_) (fun hc => ?_)
        · replace hf := f_el hf hc
          refine Go.inc 2 23 (1 : Int32) [(2, .int (l2_2 + (1 : Int32))), (0, .ref a0), (1, .int a1)] rfl dX5_questionOf_20 rfl ci_1 (by decide) rfl ?_
          refine Go.goto 2 dX5_questionOf_23 rfl ?_
          exact Go.sub [1, 2, 0] [(0, .ref a0), (1, .int a1), (2, .int (l2_2 + (1 : Int32)))] rfl (ih (l2_2 + (1 : Int32)) hf)
        · replace hf := f_if hf hc
          refine Go.iload_n 2 19 rfl dX5_questionOf_18 rfl ?_
          exact Go.ir rfl dX5_questionOf_19 hf
  exact Go.sub [1, 2, 0] [(0, .ref a0), (1, .int a1), (2, .int (0 : Int32))] rfl (L2 n (0 : Int32) hf)
theorem dX5_addTaking_0 : decode cX5_addTaking 0 = .ok (.aload_n 0, 1) := by decide +kernel
theorem dX5_addTaking_1 : decode cX5_addTaking 1 = .ok (.getfield 30, 3) := by decide +kernel
theorem dX5_addTaking_4 : decode cX5_addTaking 4 = .ok (.ifCond .lt 12, 3) := by decide +kernel
theorem dX5_addTaking_7 : decode cX5_addTaking 7 = .ok (.aload_n 0, 1) := by decide +kernel
theorem dX5_addTaking_8 : decode cX5_addTaking 8 = .ok (.getfield 30, 3) := by decide +kernel
theorem dX5_addTaking_11 : decode cX5_addTaking 11 = .ok (.bipush 40, 2) := by decide +kernel
theorem dX5_addTaking_13 : decode cX5_addTaking 13 = .ok (.if_icmp .lt 4, 3) := by decide +kernel
theorem dX5_addTaking_16 : decode cX5_addTaking 16 = .ok (.return_, 1) := by decide +kernel
theorem dX5_addTaking_17 : decode cX5_addTaking 17 = .ok (.aload_n 0, 1) := by decide +kernel
theorem dX5_addTaking_18 : decode cX5_addTaking 18 = .ok (.getfield 21, 3) := by decide +kernel
theorem dX5_addTaking_21 : decode cX5_addTaking 21 = .ok (.iconst 0, 1) := by decide +kernel
theorem dX5_addTaking_22 : decode cX5_addTaking 22 = .ok (.aload_n 0, 1) := by decide +kernel
theorem dX5_addTaking_23 : decode cX5_addTaking 23 = .ok (.getfield 27, 3) := by decide +kernel
theorem dX5_addTaking_26 : decode cX5_addTaking 26 = .ok (.aload_n 0, 1) := by decide +kernel
theorem dX5_addTaking_27 : decode cX5_addTaking 27 = .ok (.getfield 30, 3) := by decide +kernel
theorem dX5_addTaking_30 : decode cX5_addTaking 30 = .ok (.bipush 7, 2) := by decide +kernel
theorem dX5_addTaking_32 : decode cX5_addTaking 32 = .ok (.imul, 1) := by decide +kernel
theorem dX5_addTaking_33 : decode cX5_addTaking 33 = .ok (.bipush 7, 2) := by decide +kernel
theorem dX5_addTaking_35 : decode cX5_addTaking 35 = .ok (.invokestatic 40, 3) := by decide +kernel
theorem dX5_addTaking_38 : decode cX5_addTaking 38 = .ok (.aload_n 0, 1) := by decide +kernel
theorem dX5_addTaking_39 : decode cX5_addTaking 39 = .ok (.getfield 24, 3) := by decide +kernel
theorem dX5_addTaking_42 : decode cX5_addTaking 42 = .ok (.aload_n 0, 1) := by decide +kernel
theorem dX5_addTaking_43 : decode cX5_addTaking 43 = .ok (.getfield 30, 3) := by decide +kernel
theorem dX5_addTaking_46 : decode cX5_addTaking 46 = .ok (.bipush 10, 2) := by decide +kernel
theorem dX5_addTaking_48 : decode cX5_addTaking 48 = .ok (.iload_n 1, 1) := by decide +kernel
theorem dX5_addTaking_49 : decode cX5_addTaking 49 = .ok (.imul, 1) := by decide +kernel
theorem dX5_addTaking_50 : decode cX5_addTaking 50 = .ok (.iload_n 2, 1) := by decide +kernel
theorem dX5_addTaking_51 : decode cX5_addTaking 51 = .ok (.iadd, 1) := by decide +kernel
theorem dX5_addTaking_52 : decode cX5_addTaking 52 = .ok (.iastore, 1) := by decide +kernel
theorem dX5_addTaking_53 : decode cX5_addTaking 53 = .ok (.aload_n 0, 1) := by decide +kernel
theorem dX5_addTaking_54 : decode cX5_addTaking 54 = .ok (.dup, 1) := by decide +kernel
theorem dX5_addTaking_55 : decode cX5_addTaking 55 = .ok (.getfield 30, 3) := by decide +kernel
theorem dX5_addTaking_58 : decode cX5_addTaking 58 = .ok (.iconst 1, 1) := by decide +kernel
theorem dX5_addTaking_59 : decode cX5_addTaking 59 = .ok (.iadd, 1) := by decide +kernel
theorem dX5_addTaking_60 : decode cX5_addTaking 60 = .ok (.putfield 30, 3) := by decide +kernel
theorem dX5_addTaking_63 : decode cX5_addTaking 63 = .ok (.aload_n 0, 1) := by decide +kernel
theorem dX5_addTaking_64 : decode cX5_addTaking 64 = .ok (.getfield 21, 3) := by decide +kernel
theorem dX5_addTaking_67 : decode cX5_addTaking 67 = .ok (.iload_n 1, 1) := by decide +kernel
theorem dX5_addTaking_68 : decode cX5_addTaking 68 = .ok (.iload_n 2, 1) := by decide +kernel
theorem dX5_addTaking_69 : decode cX5_addTaking 69 = .ok (.iastore, 1) := by decide +kernel
theorem dX5_addTaking_70 : decode cX5_addTaking 70 = .ok (.return_, 1) := by decide +kernel
def F_X5_addTaking (n : Nat) (S : aSt) (a0 : Nat) (a1 : Int32) (a2 : Int32) : Option aSt :=
if (S.1 a0 6) < 0 then (some S) else
if (S.1 a0 6) < (40 : Int32) then (rfd (S.2.2 a0 3) 7 fun k18 =>
rfd (S.2.2 a0 5) 7 fun k23 =>
grd (cpok (0 : Int32) ((S.1 a0 6) * (7 : Int32)) (7 : Int32) (SH k18).2 (SH k23).2) <|
nm (stRow S k23 (va_cpy (S.1 k18) (S.1 k23) (0 : Int32).toNatClampNeg ((S.1 a0 6) * (7 : Int32)).toNatClampNeg (7 : Int32).toNatClampNeg)) fun S35 =>
rfd (S35.2.2 a0 4) 7 fun k39 =>
grd (inb (S35.1 a0 6) (SH k39).2) <|
nm (stI S35 k39 (S35.1 a0 6).toNatClampNeg (((10 : Int32) * a1) + a2)) fun S52 =>
nm (stI S52 a0 6 ((S52.1 a0 6) + (1 : Int32))) fun S60 =>
rfd (S60.2.2 a0 3) 7 fun k64 =>
grd (inb a1 (SH k64).2) <|
nm (stI S60 k64 a1.toNatClampNeg a2) fun S69 =>
some S69) else
some S
set_option maxHeartbeats 4000000 in
set_option maxRecDepth 100000 in
theorem C_X5_addTaking (G : aG) (l : Launch) (n : Nat) (S : aSt) (a0 : Nat) (a1 : Int32) (a2 : Int32) (Sr : aSt) (ha0 : isT a0 4 = true) (hf : F_X5_addTaking n S a0 a1 a2 = some Sr) : Ctr G l yX5_addTaking mX5_addTaking (rmM 2) 97 97 S [.ref a0, .int a1, .int a2] none Sr := by
  refine Ctr.of (by decide) rfl rfl (Nat.le_of_ble_eq_true rfl) [(0, .ref a0), (1, .int a1), (2, .int a2)] rfl ?_
  unfold F_X5_addTaking at hf
  refine Go.aload_n 0 1 rfl dX5_addTaking_0 rfl ?_
  refine Go.getI 4 rfl dX5_addTaking_1 fl_X5_30 rfl (isT_lt ha0) (isT_sh ha0) ?_
  refine Go.if_lt 16 7 rfl dX5_addTaking_4 rfl (fun hc => ?_) (fun hc => ?_)
  · replace hf := f_if hf hc
    exact Go.vr rfl dX5_addTaking_16 hf
  · replace hf := f_el hf hc
    refine Go.aload_n 0 8 rfl dX5_addTaking_7 rfl ?_
    refine Go.getI 11 rfl dX5_addTaking_8 fl_X5_30 rfl (isT_lt ha0) (isT_sh ha0) ?_
    refine Go.bipush (40 : Int32) 13 rfl dX5_addTaking_11 cb_40 ?_
    refine Go.icmp_lt 17 16 rfl dX5_addTaking_13 rfl (fun hc => ?_) (fun hc => ?_)
    · replace hf := f_if hf hc
      refine Go.aload_n 0 18 rfl dX5_addTaking_17 rfl ?_
      obtain ⟨k18, qk18, hk18, hf⟩ := f_rfd hf
      refine Go.getR 21 rfl dX5_addTaking_18 fl_X5_21 rfl (isT_lt ha0) (isT_sh ha0) qk18 ?_
      refine Go.iconst (0 : Int32) 22 rfl dX5_addTaking_21 ci_0 ?_
      refine Go.aload_n 0 23 rfl dX5_addTaking_22 rfl ?_
      obtain ⟨k23, qk23, hk23, hf⟩ := f_rfd hf
      refine Go.getR 26 rfl dX5_addTaking_23 fl_X5_27 rfl (isT_lt ha0) (isT_sh ha0) qk23 ?_
      refine Go.aload_n 0 27 rfl dX5_addTaking_26 rfl ?_
      refine Go.getI 30 rfl dX5_addTaking_27 fl_X5_30 rfl (isT_lt ha0) (isT_sh ha0) ?_
      refine Go.bipush (7 : Int32) 32 rfl dX5_addTaking_30 cb_7 ?_
      refine Go.imul 33 rfl dX5_addTaking_32 ?_
      refine Go.bipush (7 : Int32) 35 rfl dX5_addTaking_33 cb_7 ?_
      obtain ⟨g35, hf⟩ := f_grd hf
      obtain ⟨S35, eS35, hf⟩ := f_nm hf
      refine Go.acpy 38 rfl dX5_addTaking_35 (am_mem 490 (by decide +kernel) rfl) (am_mem 337 (by decide +kernel) rfl) (am_mem 336 (by decide +kernel) rfl) (am_mem 61 (by decide +kernel) rfl) (isT_lt hk18) (isT_sh hk18) (isT_lt hk23) (isT_sh hk23) g35 (by decide) (by decide) (Go.stt S35 eS35 ?_)
      refine Go.aload_n 0 39 rfl dX5_addTaking_38 rfl ?_
      obtain ⟨k39, qk39, hk39, hf⟩ := f_rfd hf
      refine Go.getR 42 rfl dX5_addTaking_39 fl_X5_24 rfl (isT_lt ha0) (isT_sh ha0) qk39 ?_
      refine Go.aload_n 0 43 rfl dX5_addTaking_42 rfl ?_
      refine Go.getI 46 rfl dX5_addTaking_43 fl_X5_30 rfl (isT_lt ha0) (isT_sh ha0) ?_
      refine Go.bipush (10 : Int32) 48 rfl dX5_addTaking_46 cb_10 ?_
      refine Go.iload_n 1 49 rfl dX5_addTaking_48 rfl ?_
      refine Go.imul 50 rfl dX5_addTaking_49 ?_
      refine Go.iload_n 2 51 rfl dX5_addTaking_50 rfl ?_
      refine Go.iadd 52 rfl dX5_addTaking_51 ?_
      obtain ⟨g52, hf⟩ := f_grd hf
      obtain ⟨S52, eS52, hf⟩ := f_nm hf
      refine Go.iast 53 rfl dX5_addTaking_52 (isT_lt hk39) (isT_sh hk39) g52 (Go.stt S52 eS52 ?_)
      refine Go.aload_n 0 54 rfl dX5_addTaking_53 rfl ?_
      refine Go.dup 55 rfl dX5_addTaking_54 rfl ?_
      refine Go.getI 58 rfl dX5_addTaking_55 fl_X5_30 rfl (isT_lt ha0) (isT_sh ha0) ?_
      refine Go.iconst (1 : Int32) 59 rfl dX5_addTaking_58 ci_1 ?_
      refine Go.iadd 60 rfl dX5_addTaking_59 ?_
      obtain ⟨S60, eS60, hf⟩ := f_nm hf
      refine Go.putI 63 rfl dX5_addTaking_60 fp_X5_30 rfl (isT_lt ha0) (isT_sh ha0) (fun h => by cases h) (Go.stt S60 eS60 ?_)
      refine Go.aload_n 0 64 rfl dX5_addTaking_63 rfl ?_
      obtain ⟨k64, qk64, hk64, hf⟩ := f_rfd hf
      refine Go.getR 67 rfl dX5_addTaking_64 fl_X5_21 rfl (isT_lt ha0) (isT_sh ha0) qk64 ?_
      refine Go.iload_n 1 68 rfl dX5_addTaking_67 rfl ?_
      refine Go.iload_n 2 69 rfl dX5_addTaking_68 rfl ?_
      obtain ⟨g69, hf⟩ := f_grd hf
      obtain ⟨S69, eS69, hf⟩ := f_nm hf
      refine Go.iast 70 rfl dX5_addTaking_69 (isT_lt hk64) (isT_sh hk64) g69 (Go.stt S69 eS69 ?_)
      exact Go.vr rfl dX5_addTaking_70 hf
    · replace hf := f_el hf hc
      exact Go.vr rfl dX5_addTaking_16 hf
theorem dX5_goBack_0 : decode cX5_goBack 0 = .ok (.iload_n 1, 1) := by decide +kernel
theorem dX5_goBack_1 : decode cX5_goBack 1 = .ok (.ifCond .lt 11, 3) := by decide +kernel
theorem dX5_goBack_4 : decode cX5_goBack 4 = .ok (.iload_n 1, 1) := by decide +kernel
theorem dX5_goBack_5 : decode cX5_goBack 5 = .ok (.aload_n 0, 1) := by decide +kernel
theorem dX5_goBack_6 : decode cX5_goBack 6 = .ok (.getfield 30, 3) := by decide +kernel
theorem dX5_goBack_9 : decode cX5_goBack 9 = .ok (.if_icmp .lt 5, 3) := by decide +kernel
theorem dX5_goBack_12 : decode cX5_goBack 12 = .ok (.iconst 0, 1) := by decide +kernel
theorem dX5_goBack_13 : decode cX5_goBack 13 = .ok (.ireturn, 1) := by decide +kernel
theorem dX5_goBack_14 : decode cX5_goBack 14 = .ok (.aload_n 0, 1) := by decide +kernel
theorem dX5_goBack_15 : decode cX5_goBack 15 = .ok (.getfield 30, 3) := by decide +kernel
theorem dX5_goBack_18 : decode cX5_goBack 18 = .ok (.iload_n 1, 1) := by decide +kernel
theorem dX5_goBack_19 : decode cX5_goBack 19 = .ok (.isub, 1) := by decide +kernel
theorem dX5_goBack_20 : decode cX5_goBack 20 = .ok (.istore_n 2, 1) := by decide +kernel
theorem dX5_goBack_21 : decode cX5_goBack 21 = .ok (.aload_n 0, 1) := by decide +kernel
theorem dX5_goBack_22 : decode cX5_goBack 22 = .ok (.getfield 27, 3) := by decide +kernel
theorem dX5_goBack_25 : decode cX5_goBack 25 = .ok (.iload_n 1, 1) := by decide +kernel
theorem dX5_goBack_26 : decode cX5_goBack 26 = .ok (.bipush 7, 2) := by decide +kernel
theorem dX5_goBack_28 : decode cX5_goBack 28 = .ok (.imul, 1) := by decide +kernel
theorem dX5_goBack_29 : decode cX5_goBack 29 = .ok (.aload_n 0, 1) := by decide +kernel
theorem dX5_goBack_30 : decode cX5_goBack 30 = .ok (.getfield 21, 3) := by decide +kernel
theorem dX5_goBack_33 : decode cX5_goBack 33 = .ok (.iconst 0, 1) := by decide +kernel
theorem dX5_goBack_34 : decode cX5_goBack 34 = .ok (.bipush 7, 2) := by decide +kernel
theorem dX5_goBack_36 : decode cX5_goBack 36 = .ok (.invokestatic 40, 3) := by decide +kernel
theorem dX5_goBack_39 : decode cX5_goBack 39 = .ok (.aload_n 0, 1) := by decide +kernel
theorem dX5_goBack_40 : decode cX5_goBack 40 = .ok (.iload_n 1, 1) := by decide +kernel
theorem dX5_goBack_41 : decode cX5_goBack 41 = .ok (.putfield 30, 3) := by decide +kernel
theorem dX5_goBack_44 : decode cX5_goBack 44 = .ok (.iload_n 2, 1) := by decide +kernel
theorem dX5_goBack_45 : decode cX5_goBack 45 = .ok (.ireturn, 1) := by decide +kernel
def F_X5_goBack (n : Nat) (S : aSt) (a0 : Nat) (a1 : Int32) : Option (Int32 × aSt) :=
if a1 < 0 then (some ((0 : Int32), S)) else
if a1 < (S.1 a0 6) then (nm ((S.1 a0 6) - a1) fun v20 =>
rfd (S.2.2 a0 5) 7 fun k22 =>
rfd (S.2.2 a0 3) 7 fun k30 =>
grd (cpok (a1 * (7 : Int32)) (0 : Int32) (7 : Int32) (SH k22).2 (SH k30).2) <|
nm (stRow S k30 (va_cpy (S.1 k22) (S.1 k30) (a1 * (7 : Int32)).toNatClampNeg (0 : Int32).toNatClampNeg (7 : Int32).toNatClampNeg)) fun S36 =>
nm (stI S36 a0 6 a1) fun S41 =>
some (v20, S41)) else
some ((0 : Int32), S)
set_option maxHeartbeats 4000000 in
set_option maxRecDepth 100000 in
theorem C_X5_goBack (G : aG) (l : Launch) (n : Nat) (S : aSt) (a0 : Nat) (a1 : Int32) (r : Int32) (Sr : aSt) (ha0 : isT a0 4 = true) (hf : F_X5_goBack n S a0 a1 = some (r, Sr)) : Ctr G l yX5_goBack mX5_goBack (rmM 2) 97 97 S [.ref a0, .int a1] (some (.int r)) Sr := by
  refine Ctr.of (by decide) rfl rfl (Nat.le_of_ble_eq_true rfl) [(0, .ref a0), (1, .int a1)] rfl ?_
  unfold F_X5_goBack at hf
  refine Go.iload_n 1 1 rfl dX5_goBack_0 rfl ?_
  refine Go.if_lt 12 4 rfl dX5_goBack_1 rfl (fun hc => ?_) (fun hc => ?_)
  · replace hf := f_if hf hc
    refine Go.iconst (0 : Int32) 13 rfl dX5_goBack_12 ci_0 ?_
    exact Go.irS rfl dX5_goBack_13 hf
  · replace hf := f_el hf hc
    refine Go.iload_n 1 5 rfl dX5_goBack_4 rfl ?_
    refine Go.aload_n 0 6 rfl dX5_goBack_5 rfl ?_
    refine Go.getI 9 rfl dX5_goBack_6 fl_X5_30 rfl (isT_lt ha0) (isT_sh ha0) ?_
    refine Go.icmp_lt 14 12 rfl dX5_goBack_9 rfl (fun hc => ?_) (fun hc => ?_)
    · replace hf := f_if hf hc
      refine Go.aload_n 0 15 rfl dX5_goBack_14 rfl ?_
      refine Go.getI 18 rfl dX5_goBack_15 fl_X5_30 rfl (isT_lt ha0) (isT_sh ha0) ?_
      refine Go.iload_n 1 19 rfl dX5_goBack_18 rfl ?_
      refine Go.isub 20 rfl dX5_goBack_19 ?_
      obtain ⟨v20, ev20, hf⟩ := f_nm hf
      refine Go.topi v20 ev20 ?_
      refine Go.istore_n 21 [(2, .int v20), (0, .ref a0), (1, .int a1)] rfl dX5_goBack_20 (by decide) rfl ?_
      refine Go.aload_n 1 22 rfl dX5_goBack_21 rfl ?_
      obtain ⟨k22, qk22, hk22, hf⟩ := f_rfd hf
      refine Go.getR 25 rfl dX5_goBack_22 fl_X5_27 rfl (isT_lt ha0) (isT_sh ha0) qk22 ?_
      refine Go.iload_n 2 26 rfl dX5_goBack_25 rfl ?_
      refine Go.bipush (7 : Int32) 28 rfl dX5_goBack_26 cb_7 ?_
      refine Go.imul 29 rfl dX5_goBack_28 ?_
      refine Go.aload_n 1 30 rfl dX5_goBack_29 rfl ?_
      obtain ⟨k30, qk30, hk30, hf⟩ := f_rfd hf
      refine Go.getR 33 rfl dX5_goBack_30 fl_X5_21 rfl (isT_lt ha0) (isT_sh ha0) qk30 ?_
      refine Go.iconst (0 : Int32) 34 rfl dX5_goBack_33 ci_0 ?_
      refine Go.bipush (7 : Int32) 36 rfl dX5_goBack_34 cb_7 ?_
      obtain ⟨g36, hf⟩ := f_grd hf
      obtain ⟨S36, eS36, hf⟩ := f_nm hf
      refine Go.acpy 39 rfl dX5_goBack_36 (am_mem 490 (by decide +kernel) rfl) (am_mem 337 (by decide +kernel) rfl) (am_mem 336 (by decide +kernel) rfl) (am_mem 61 (by decide +kernel) rfl) (isT_lt hk22) (isT_sh hk22) (isT_lt hk30) (isT_sh hk30) g36 (by decide) (by decide) (Go.stt S36 eS36 ?_)
      refine Go.aload_n 1 40 rfl dX5_goBack_39 rfl ?_
      refine Go.iload_n 2 41 rfl dX5_goBack_40 rfl ?_
      obtain ⟨S41, eS41, hf⟩ := f_nm hf
      refine Go.putI 44 rfl dX5_goBack_41 fp_X5_30 rfl (isT_lt ha0) (isT_sh ha0) (fun h => by cases h) (Go.stt S41 eS41 ?_)
      refine Go.iload_n 0 45 rfl dX5_goBack_44 rfl ?_
      exact Go.irS rfl dX5_goBack_45 hf
    · replace hf := f_el hf hc
      refine Go.iconst (0 : Int32) 13 rfl dX5_goBack_12 ci_0 ?_
      exact Go.irS rfl dX5_goBack_13 hf
theorem dX5_become_0 : decode cX5_become 0 = .ok (.aload_n 1, 1) := by decide +kernel
theorem dX5_become_1 : decode cX5_become 1 = .ok (.getfield 9, 3) := by decide +kernel
theorem dX5_become_4 : decode cX5_become 4 = .ok (.iconst 0, 1) := by decide +kernel
theorem dX5_become_5 : decode cX5_become 5 = .ok (.aload_n 0, 1) := by decide +kernel
theorem dX5_become_6 : decode cX5_become 6 = .ok (.getfield 9, 3) := by decide +kernel
theorem dX5_become_9 : decode cX5_become 9 = .ok (.iconst 0, 1) := by decide +kernel
theorem dX5_become_10 : decode cX5_become 10 = .ok (.bipush 7, 2) := by decide +kernel
theorem dX5_become_12 : decode cX5_become 12 = .ok (.invokestatic 40, 3) := by decide +kernel
theorem dX5_become_15 : decode cX5_become 15 = .ok (.aload_n 1, 1) := by decide +kernel
theorem dX5_become_16 : decode cX5_become 16 = .ok (.getfield 15, 3) := by decide +kernel
theorem dX5_become_19 : decode cX5_become 19 = .ok (.iconst 0, 1) := by decide +kernel
theorem dX5_become_20 : decode cX5_become 20 = .ok (.aload_n 0, 1) := by decide +kernel
theorem dX5_become_21 : decode cX5_become 21 = .ok (.getfield 15, 3) := by decide +kernel
theorem dX5_become_24 : decode cX5_become 24 = .ok (.iconst 0, 1) := by decide +kernel
theorem dX5_become_25 : decode cX5_become 25 = .ok (.bipush 7, 2) := by decide +kernel
theorem dX5_become_27 : decode cX5_become 27 = .ok (.invokestatic 40, 3) := by decide +kernel
theorem dX5_become_30 : decode cX5_become 30 = .ok (.aload_n 1, 1) := by decide +kernel
theorem dX5_become_31 : decode cX5_become 31 = .ok (.getfield 18, 3) := by decide +kernel
theorem dX5_become_34 : decode cX5_become 34 = .ok (.iconst 0, 1) := by decide +kernel
theorem dX5_become_35 : decode cX5_become 35 = .ok (.aload_n 0, 1) := by decide +kernel
theorem dX5_become_36 : decode cX5_become 36 = .ok (.getfield 18, 3) := by decide +kernel
theorem dX5_become_39 : decode cX5_become 39 = .ok (.iconst 0, 1) := by decide +kernel
theorem dX5_become_40 : decode cX5_become 40 = .ok (.bipush 7, 2) := by decide +kernel
theorem dX5_become_42 : decode cX5_become 42 = .ok (.invokestatic 40, 3) := by decide +kernel
theorem dX5_become_45 : decode cX5_become 45 = .ok (.aload_n 1, 1) := by decide +kernel
theorem dX5_become_46 : decode cX5_become 46 = .ok (.getfield 21, 3) := by decide +kernel
theorem dX5_become_49 : decode cX5_become 49 = .ok (.iconst 0, 1) := by decide +kernel
theorem dX5_become_50 : decode cX5_become 50 = .ok (.aload_n 0, 1) := by decide +kernel
theorem dX5_become_51 : decode cX5_become 51 = .ok (.getfield 21, 3) := by decide +kernel
theorem dX5_become_54 : decode cX5_become 54 = .ok (.iconst 0, 1) := by decide +kernel
theorem dX5_become_55 : decode cX5_become 55 = .ok (.bipush 7, 2) := by decide +kernel
theorem dX5_become_57 : decode cX5_become 57 = .ok (.invokestatic 40, 3) := by decide +kernel
theorem dX5_become_60 : decode cX5_become 60 = .ok (.aload_n 1, 1) := by decide +kernel
theorem dX5_become_61 : decode cX5_become 61 = .ok (.getfield 24, 3) := by decide +kernel
theorem dX5_become_64 : decode cX5_become 64 = .ok (.iconst 0, 1) := by decide +kernel
theorem dX5_become_65 : decode cX5_become 65 = .ok (.aload_n 0, 1) := by decide +kernel
theorem dX5_become_66 : decode cX5_become 66 = .ok (.getfield 24, 3) := by decide +kernel
theorem dX5_become_69 : decode cX5_become 69 = .ok (.iconst 0, 1) := by decide +kernel
theorem dX5_become_70 : decode cX5_become 70 = .ok (.bipush 40, 2) := by decide +kernel
theorem dX5_become_72 : decode cX5_become 72 = .ok (.invokestatic 40, 3) := by decide +kernel
theorem dX5_become_75 : decode cX5_become 75 = .ok (.aload_n 1, 1) := by decide +kernel
theorem dX5_become_76 : decode cX5_become 76 = .ok (.getfield 27, 3) := by decide +kernel
theorem dX5_become_79 : decode cX5_become 79 = .ok (.iconst 0, 1) := by decide +kernel
theorem dX5_become_80 : decode cX5_become 80 = .ok (.aload_n 0, 1) := by decide +kernel
theorem dX5_become_81 : decode cX5_become 81 = .ok (.getfield 27, 3) := by decide +kernel
theorem dX5_become_84 : decode cX5_become 84 = .ok (.iconst 0, 1) := by decide +kernel
theorem dX5_become_85 : decode cX5_become 85 = .ok (.sipush 280, 3) := by decide +kernel
theorem dX5_become_88 : decode cX5_become 88 = .ok (.invokestatic 40, 3) := by decide +kernel
theorem dX5_become_91 : decode cX5_become 91 = .ok (.aload_n 0, 1) := by decide +kernel
theorem dX5_become_92 : decode cX5_become 92 = .ok (.aload_n 1, 1) := by decide +kernel
theorem dX5_become_93 : decode cX5_become 93 = .ok (.getfield 30, 3) := by decide +kernel
theorem dX5_become_96 : decode cX5_become 96 = .ok (.putfield 30, 3) := by decide +kernel
theorem dX5_become_99 : decode cX5_become 99 = .ok (.return_, 1) := by decide +kernel
def F_X5_become (n : Nat) (S : aSt) (a0 : Nat) (a1 : Nat) : Option aSt :=
rfd (S.2.2 a1 0) 7 fun k1 =>
rfd (S.2.2 a0 0) 7 fun k6 =>
grd (cpok (0 : Int32) (0 : Int32) (7 : Int32) (SH k1).2 (SH k6).2) <|
nm (stRow S k6 (va_cpy (S.1 k1) (S.1 k6) (0 : Int32).toNatClampNeg (0 : Int32).toNatClampNeg (7 : Int32).toNatClampNeg)) fun S12 =>
rfd (S12.2.2 a1 1) 7 fun k16 =>
rfd (S12.2.2 a0 1) 7 fun k21 =>
grd (cpok (0 : Int32) (0 : Int32) (7 : Int32) (SH k16).2 (SH k21).2) <|
nm (stRow S12 k21 (va_cpy (S12.1 k16) (S12.1 k21) (0 : Int32).toNatClampNeg (0 : Int32).toNatClampNeg (7 : Int32).toNatClampNeg)) fun S27 =>
rfd (S27.2.2 a1 2) 7 fun k31 =>
rfd (S27.2.2 a0 2) 7 fun k36 =>
grd (cpok (0 : Int32) (0 : Int32) (7 : Int32) (SH k31).2 (SH k36).2) <|
nm (stRow S27 k36 (va_cpy (S27.1 k31) (S27.1 k36) (0 : Int32).toNatClampNeg (0 : Int32).toNatClampNeg (7 : Int32).toNatClampNeg)) fun S42 =>
rfd (S42.2.2 a1 3) 7 fun k46 =>
rfd (S42.2.2 a0 3) 7 fun k51 =>
grd (cpok (0 : Int32) (0 : Int32) (7 : Int32) (SH k46).2 (SH k51).2) <|
nm (stRow S42 k51 (va_cpy (S42.1 k46) (S42.1 k51) (0 : Int32).toNatClampNeg (0 : Int32).toNatClampNeg (7 : Int32).toNatClampNeg)) fun S57 =>
rfd (S57.2.2 a1 4) 7 fun k61 =>
rfd (S57.2.2 a0 4) 7 fun k66 =>
grd (cpok (0 : Int32) (0 : Int32) (40 : Int32) (SH k61).2 (SH k66).2) <|
nm (stRow S57 k66 (va_cpy (S57.1 k61) (S57.1 k66) (0 : Int32).toNatClampNeg (0 : Int32).toNatClampNeg (40 : Int32).toNatClampNeg)) fun S72 =>
rfd (S72.2.2 a1 5) 7 fun k76 =>
rfd (S72.2.2 a0 5) 7 fun k81 =>
grd (cpok (0 : Int32) (0 : Int32) (280 : Int32) (SH k76).2 (SH k81).2) <|
nm (stRow S72 k81 (va_cpy (S72.1 k76) (S72.1 k81) (0 : Int32).toNatClampNeg (0 : Int32).toNatClampNeg (280 : Int32).toNatClampNeg)) fun S88 =>
nm (stI S88 a0 6 (S88.1 a1 6)) fun S96 =>
some S96
set_option maxHeartbeats 4000000 in
set_option maxRecDepth 100000 in
theorem C_X5_become (G : aG) (l : Launch) (n : Nat) (S : aSt) (a0 : Nat) (a1 : Nat) (Sr : aSt) (ha0 : isT a0 4 = true) (ha1 : isT a1 4 = true) (hf : F_X5_become n S a0 a1 = some Sr) : Ctr G l yX5_become mX5_become (rmM 2) 97 97 S [.ref a0, .ref a1] none Sr := by
  refine Ctr.of (by decide) rfl rfl (Nat.le_of_ble_eq_true rfl) [(0, .ref a0), (1, .ref a1)] rfl ?_
  unfold F_X5_become at hf
  refine Go.aload_n 1 1 rfl dX5_become_0 rfl ?_
  obtain ⟨k1, qk1, hk1, hf⟩ := f_rfd hf
  refine Go.getR 4 rfl dX5_become_1 fl_X5_9 rfl (isT_lt ha1) (isT_sh ha1) qk1 ?_
  refine Go.iconst (0 : Int32) 5 rfl dX5_become_4 ci_0 ?_
  refine Go.aload_n 0 6 rfl dX5_become_5 rfl ?_
  obtain ⟨k6, qk6, hk6, hf⟩ := f_rfd hf
  refine Go.getR 9 rfl dX5_become_6 fl_X5_9 rfl (isT_lt ha0) (isT_sh ha0) qk6 ?_
  refine Go.iconst (0 : Int32) 10 rfl dX5_become_9 ci_0 ?_
  refine Go.bipush (7 : Int32) 12 rfl dX5_become_10 cb_7 ?_
  obtain ⟨g12, hf⟩ := f_grd hf
  obtain ⟨S12, eS12, hf⟩ := f_nm hf
  refine Go.acpy 15 rfl dX5_become_12 (am_mem 490 (by decide +kernel) rfl) (am_mem 337 (by decide +kernel) rfl) (am_mem 336 (by decide +kernel) rfl) (am_mem 61 (by decide +kernel) rfl) (isT_lt hk1) (isT_sh hk1) (isT_lt hk6) (isT_sh hk6) g12 (by decide) (by decide) (Go.stt S12 eS12 ?_)
  refine Go.aload_n 1 16 rfl dX5_become_15 rfl ?_
  obtain ⟨k16, qk16, hk16, hf⟩ := f_rfd hf
  refine Go.getR 19 rfl dX5_become_16 fl_X5_15 rfl (isT_lt ha1) (isT_sh ha1) qk16 ?_
  refine Go.iconst (0 : Int32) 20 rfl dX5_become_19 ci_0 ?_
  refine Go.aload_n 0 21 rfl dX5_become_20 rfl ?_
  obtain ⟨k21, qk21, hk21, hf⟩ := f_rfd hf
  refine Go.getR 24 rfl dX5_become_21 fl_X5_15 rfl (isT_lt ha0) (isT_sh ha0) qk21 ?_
  refine Go.iconst (0 : Int32) 25 rfl dX5_become_24 ci_0 ?_
  refine Go.bipush (7 : Int32) 27 rfl dX5_become_25 cb_7 ?_
  obtain ⟨g27, hf⟩ := f_grd hf
  obtain ⟨S27, eS27, hf⟩ := f_nm hf
  refine Go.acpy 30 rfl dX5_become_27 (am_mem 490 (by decide +kernel) rfl) (am_mem 337 (by decide +kernel) rfl) (am_mem 336 (by decide +kernel) rfl) (am_mem 61 (by decide +kernel) rfl) (isT_lt hk16) (isT_sh hk16) (isT_lt hk21) (isT_sh hk21) g27 (by decide) (by decide) (Go.stt S27 eS27 ?_)
  refine Go.aload_n 1 31 rfl dX5_become_30 rfl ?_
  obtain ⟨k31, qk31, hk31, hf⟩ := f_rfd hf
  refine Go.getR 34 rfl dX5_become_31 fl_X5_18 rfl (isT_lt ha1) (isT_sh ha1) qk31 ?_
  refine Go.iconst (0 : Int32) 35 rfl dX5_become_34 ci_0 ?_
  refine Go.aload_n 0 36 rfl dX5_become_35 rfl ?_
  obtain ⟨k36, qk36, hk36, hf⟩ := f_rfd hf
  refine Go.getR 39 rfl dX5_become_36 fl_X5_18 rfl (isT_lt ha0) (isT_sh ha0) qk36 ?_
  refine Go.iconst (0 : Int32) 40 rfl dX5_become_39 ci_0 ?_
  refine Go.bipush (7 : Int32) 42 rfl dX5_become_40 cb_7 ?_
  obtain ⟨g42, hf⟩ := f_grd hf
  obtain ⟨S42, eS42, hf⟩ := f_nm hf
  refine Go.acpy 45 rfl dX5_become_42 (am_mem 490 (by decide +kernel) rfl) (am_mem 337 (by decide +kernel) rfl) (am_mem 336 (by decide +kernel) rfl) (am_mem 61 (by decide +kernel) rfl) (isT_lt hk31) (isT_sh hk31) (isT_lt hk36) (isT_sh hk36) g42 (by decide) (by decide) (Go.stt S42 eS42 ?_)
  refine Go.aload_n 1 46 rfl dX5_become_45 rfl ?_
  obtain ⟨k46, qk46, hk46, hf⟩ := f_rfd hf
  refine Go.getR 49 rfl dX5_become_46 fl_X5_21 rfl (isT_lt ha1) (isT_sh ha1) qk46 ?_
  refine Go.iconst (0 : Int32) 50 rfl dX5_become_49 ci_0 ?_
  refine Go.aload_n 0 51 rfl dX5_become_50 rfl ?_
  obtain ⟨k51, qk51, hk51, hf⟩ := f_rfd hf
  refine Go.getR 54 rfl dX5_become_51 fl_X5_21 rfl (isT_lt ha0) (isT_sh ha0) qk51 ?_
  refine Go.iconst (0 : Int32) 55 rfl dX5_become_54 ci_0 ?_
  refine Go.bipush (7 : Int32) 57 rfl dX5_become_55 cb_7 ?_
  obtain ⟨g57, hf⟩ := f_grd hf
  obtain ⟨S57, eS57, hf⟩ := f_nm hf
  refine Go.acpy 60 rfl dX5_become_57 (am_mem 490 (by decide +kernel) rfl) (am_mem 337 (by decide +kernel) rfl) (am_mem 336 (by decide +kernel) rfl) (am_mem 61 (by decide +kernel) rfl) (isT_lt hk46) (isT_sh hk46) (isT_lt hk51) (isT_sh hk51) g57 (by decide) (by decide) (Go.stt S57 eS57 ?_)
  refine Go.aload_n 1 61 rfl dX5_become_60 rfl ?_
  obtain ⟨k61, qk61, hk61, hf⟩ := f_rfd hf
  refine Go.getR 64 rfl dX5_become_61 fl_X5_24 rfl (isT_lt ha1) (isT_sh ha1) qk61 ?_
  refine Go.iconst (0 : Int32) 65 rfl dX5_become_64 ci_0 ?_
  refine Go.aload_n 0 66 rfl dX5_become_65 rfl ?_
  obtain ⟨k66, qk66, hk66, hf⟩ := f_rfd hf
  refine Go.getR 69 rfl dX5_become_66 fl_X5_24 rfl (isT_lt ha0) (isT_sh ha0) qk66 ?_
  refine Go.iconst (0 : Int32) 70 rfl dX5_become_69 ci_0 ?_
  refine Go.bipush (40 : Int32) 72 rfl dX5_become_70 cb_40 ?_
  obtain ⟨g72, hf⟩ := f_grd hf
  obtain ⟨S72, eS72, hf⟩ := f_nm hf
  refine Go.acpy 75 rfl dX5_become_72 (am_mem 490 (by decide +kernel) rfl) (am_mem 337 (by decide +kernel) rfl) (am_mem 336 (by decide +kernel) rfl) (am_mem 61 (by decide +kernel) rfl) (isT_lt hk61) (isT_sh hk61) (isT_lt hk66) (isT_sh hk66) g72 (by decide) (by decide) (Go.stt S72 eS72 ?_)
  refine Go.aload_n 1 76 rfl dX5_become_75 rfl ?_
  obtain ⟨k76, qk76, hk76, hf⟩ := f_rfd hf
  refine Go.getR 79 rfl dX5_become_76 fl_X5_27 rfl (isT_lt ha1) (isT_sh ha1) qk76 ?_
  refine Go.iconst (0 : Int32) 80 rfl dX5_become_79 ci_0 ?_
  refine Go.aload_n 0 81 rfl dX5_become_80 rfl ?_
  obtain ⟨k81, qk81, hk81, hf⟩ := f_rfd hf
  refine Go.getR 84 rfl dX5_become_81 fl_X5_27 rfl (isT_lt ha0) (isT_sh ha0) qk81 ?_
  refine Go.iconst (0 : Int32) 85 rfl dX5_become_84 ci_0 ?_
  refine Go.sipush (280 : Int32) 88 rfl dX5_become_85 cs_280 ?_
  obtain ⟨g88, hf⟩ := f_grd hf
  obtain ⟨S88, eS88, hf⟩ := f_nm hf
  refine Go.acpy 91 rfl dX5_become_88 (am_mem 490 (by decide +kernel) rfl) (am_mem 337 (by decide +kernel) rfl) (am_mem 336 (by decide +kernel) rfl) (am_mem 61 (by decide +kernel) rfl) (isT_lt hk76) (isT_sh hk76) (isT_lt hk81) (isT_sh hk81) g88 (by decide) (by decide) (Go.stt S88 eS88 ?_)
  refine Go.aload_n 0 92 rfl dX5_become_91 rfl ?_
  refine Go.aload_n 1 93 rfl dX5_become_92 rfl ?_
  refine Go.getI 96 rfl dX5_become_93 fl_X5_30 rfl (isT_lt ha1) (isT_sh ha1) ?_
  obtain ⟨S96, eS96, hf⟩ := f_nm hf
  refine Go.putI 99 rfl dX5_become_96 fp_X5_30 rfl (isT_lt ha0) (isT_sh ha0) (fun h => by cases h) (Go.stt S96 eS96 ?_)
  exact Go.vr rfl dX5_become_99 hf
