/-! written by program: X7_in X7_found X7_tell X7_isRow X7_isText X7_row X7_lay X7_at X7_tear X7_copy X7_mean X7_text X7_put X7_kindOf X7_byteAt -/
theorem dX7_in_0 : decode cX7_in 0 = .ok (.lload_n 0, 1) := by decide +kernel
theorem dX7_in_1 : decode cX7_in 1 = .ok (.lload_n 2, 1) := by decide +kernel
theorem dX7_in_2 : decode cX7_in 2 = .ok (.lcmp, 1) := by decide +kernel
theorem dX7_in_3 : decode cX7_in 3 = .ok (.ifCond .lt 14, 3) := by decide +kernel
theorem dX7_in_6 : decode cX7_in 6 = .ok (.lload_n 0, 1) := by decide +kernel
theorem dX7_in_7 : decode cX7_in 7 = .ok (.lload 4, 2) := by decide +kernel
theorem dX7_in_9 : decode cX7_in 9 = .ok (.lcmp, 1) := by decide +kernel
theorem dX7_in_10 : decode cX7_in 10 = .ok (.ifCond .gt 7, 3) := by decide +kernel
theorem dX7_in_13 : decode cX7_in 13 = .ok (.iconst 1, 1) := by decide +kernel
theorem dX7_in_14 : decode cX7_in 14 = .ok (.goto 4, 3) := by decide +kernel
theorem dX7_in_17 : decode cX7_in 17 = .ok (.iconst 0, 1) := by decide +kernel
theorem dX7_in_18 : decode cX7_in 18 = .ok (.ireturn, 1) := by decide +kernel
def F_X7_in (n : Nat) (S : aSt) (a0 : Int64) (a2 : Int64) (a4 : Int64) : Option Int32 :=
if (lg_cmp a0 a2) < 0 then (some (0 : Int32)) else
if 0 < (lg_cmp a0 a4) then (some (0 : Int32)) else
some (1 : Int32)
set_option maxHeartbeats 4000000 in
set_option maxRecDepth 100000 in
theorem C_X7_in (G : aG) (l : Launch) (n : Nat) (S : aSt) (a0 : Int64) (a2 : Int64) (a4 : Int64) (r : Int32)  (hf : F_X7_in n S a0 a2 a4 = some r) : Ctr G l yX7_in mX7_in (rmM 1) 97 97 S [.long a0, .long a2, .long a4] (some (.int r)) S := by
  refine Ctr.of (by decide) rfl rfl (Nat.le_of_ble_eq_true rfl) [(0, .long a0), (2, .long a2), (4, .long a4)] rfl ?_
  unfold F_X7_in at hf
  refine Go.lload_n 0 1 rfl dX7_in_0 rfl ?_
  refine Go.lload_n 1 2 rfl dX7_in_1 rfl ?_
  refine Go.lcmp 3 rfl dX7_in_2 ?_
  refine Go.if_lt 17 6 rfl dX7_in_3 rfl (fun hc => ?_) (fun hc => ?_)
  · replace hf := f_if hf hc
    refine Go.iconst (0 : Int32) 18 rfl dX7_in_17 ci_0 ?_
    exact Go.zr rfl (Or.inl rfl) dX7_in_18 hf
  · replace hf := f_el hf hc
    refine Go.lload_n 0 7 rfl dX7_in_6 rfl ?_
    refine Go.lload 2 9 rfl dX7_in_7 rfl ?_
    refine Go.lcmp 10 rfl dX7_in_9 ?_
    refine Go.if_gt 17 13 rfl dX7_in_10 rfl (fun hc => ?_) (fun hc => ?_)
    · replace hf := f_if hf hc
      refine Go.iconst (0 : Int32) 18 rfl dX7_in_17 ci_0 ?_
      exact Go.zr rfl (Or.inl rfl) dX7_in_18 hf
    · replace hf := f_el hf hc
      refine Go.iconst (1 : Int32) 14 rfl dX7_in_13 ci_1 ?_
      refine Go.goto 18 dX7_in_14 rfl ?_
      exact Go.zr rfl (Or.inr rfl) dX7_in_18 hf
theorem dX7_found_0 : decode cX7_found 0 = .ok (.aload_n 0, 1) := by decide +kernel
theorem dX7_found_1 : decode cX7_found 1 = .ok (.iload_n 1, 1) := by decide +kernel
theorem dX7_found_2 : decode cX7_found 2 = .ok (.putfield 57, 3) := by decide +kernel
theorem dX7_found_5 : decode cX7_found 5 = .ok (.aload_n 0, 1) := by decide +kernel
theorem dX7_found_6 : decode cX7_found 6 = .ok (.getfield 36, 3) := by decide +kernel
theorem dX7_found_9 : decode cX7_found 9 = .ok (.iload_n 1, 1) := by decide +kernel
theorem dX7_found_10 : decode cX7_found 10 = .ok (.dup2, 1) := by decide +kernel
theorem dX7_found_11 : decode cX7_found 11 = .ok (.iaload, 1) := by decide +kernel
theorem dX7_found_12 : decode cX7_found 12 = .ok (.iconst 1, 1) := by decide +kernel
theorem dX7_found_13 : decode cX7_found 13 = .ok (.iadd, 1) := by decide +kernel
theorem dX7_found_14 : decode cX7_found 14 = .ok (.iastore, 1) := by decide +kernel
theorem dX7_found_15 : decode cX7_found 15 = .ok (.bipush (-3), 2) := by decide +kernel
theorem dX7_found_17 : decode cX7_found 17 = .ok (.ireturn, 1) := by decide +kernel
def F_X7_found (n : Nat) (S : aSt) (a0 : Nat) (a1 : Int32) : Option (Int32 × aSt) :=
nm (stI S a0 10 a1) fun S2 =>
rfd (S2.2.2 a0 11) 7 fun k6 =>
grd (inb a1 (SH k6).2) <|
grd (inb a1 (SH k6).2) <|
nm (stI S2 k6 a1.toNatClampNeg ((S2.1 k6 a1.toNatClampNeg) + (1 : Int32))) fun S14 =>
some ((-3 : Int32), S14)
set_option maxHeartbeats 4000000 in
set_option maxRecDepth 100000 in
theorem C_X7_found (G : aG) (l : Launch) (n : Nat) (S : aSt) (a0 : Nat) (a1 : Int32) (r : Int32) (Sr : aSt) (ha0 : isT a0 6 = true) (hf : F_X7_found n S a0 a1 = some (r, Sr)) : Ctr G l yX7_found mX7_found (rmM 1) 97 97 S [.ref a0, .int a1] (some (.int r)) Sr := by
  refine Ctr.of (by decide) rfl rfl (Nat.le_of_ble_eq_true rfl) [(0, .ref a0), (1, .int a1)] rfl ?_
  unfold F_X7_found at hf
  refine Go.aload_n 0 1 rfl dX7_found_0 rfl ?_
  refine Go.iload_n 1 2 rfl dX7_found_1 rfl ?_
  obtain ⟨S2, eS2, hf⟩ := f_nm hf
  refine Go.putI 5 rfl dX7_found_2 fp_X7_57 rfl (isT_lt ha0) (isT_sh ha0) (fun h => by cases h) (Go.stt S2 eS2 ?_)
  refine Go.aload_n 0 6 rfl dX7_found_5 rfl ?_
  obtain ⟨k6, qk6, hk6, hf⟩ := f_rfd hf
  refine Go.getR 9 rfl dX7_found_6 fl_X7_36 rfl (isT_lt ha0) (isT_sh ha0) qk6 ?_
  refine Go.iload_n 1 10 rfl dX7_found_9 rfl ?_
  refine Go.dup2 11 rfl dX7_found_10 rfl rfl ?_
  obtain ⟨g11, hf⟩ := f_grd hf
  refine Go.iald 12 rfl dX7_found_11 (isT_lt hk6) (isT_sh hk6) g11 ?_
  refine Go.iconst (1 : Int32) 13 rfl dX7_found_12 ci_1 ?_
  refine Go.iadd 14 rfl dX7_found_13 ?_
  obtain ⟨g14, hf⟩ := f_grd hf
  obtain ⟨S14, eS14, hf⟩ := f_nm hf
  refine Go.iast 15 rfl dX7_found_14 (isT_lt hk6) (isT_sh hk6) g14 (Go.stt S14 eS14 ?_)
  refine Go.bipush (-3 : Int32) 17 rfl dX7_found_15 cb_m3 ?_
  exact Go.irS rfl dX7_found_17 hf
theorem dX7_tell_0 : decode cX7_tell 0 = .ok (.aload_n 0, 1) := by decide +kernel
theorem dX7_tell_1 : decode cX7_tell 1 = .ok (.iload_n 1, 1) := by decide +kernel
theorem dX7_tell_2 : decode cX7_tell 2 = .ok (.putfield 61, 3) := by decide +kernel
theorem dX7_tell_5 : decode cX7_tell 5 = .ok (.iconst 1, 1) := by decide +kernel
theorem dX7_tell_6 : decode cX7_tell 6 = .ok (.ireturn, 1) := by decide +kernel
def F_X7_tell (n : Nat) (S : aSt) (a0 : Nat) (a1 : Int32) : Option (Int32 × aSt) :=
nm (stI S a0 7 a1) fun S2 =>
some ((1 : Int32), S2)
set_option maxHeartbeats 4000000 in
set_option maxRecDepth 100000 in
theorem C_X7_tell (G : aG) (l : Launch) (n : Nat) (S : aSt) (a0 : Nat) (a1 : Int32) (r : Int32) (Sr : aSt) (ha0 : isT a0 6 = true) (hf : F_X7_tell n S a0 a1 = some (r, Sr)) : Ctr G l yX7_tell mX7_tell (rmM 1) 97 97 S [.ref a0, .int a1] (some (.int r)) Sr := by
  refine Ctr.of (by decide) rfl rfl (Nat.le_of_ble_eq_true rfl) [(0, .ref a0), (1, .int a1)] rfl ?_
  unfold F_X7_tell at hf
  refine Go.aload_n 0 1 rfl dX7_tell_0 rfl ?_
  refine Go.iload_n 1 2 rfl dX7_tell_1 rfl ?_
  obtain ⟨S2, eS2, hf⟩ := f_nm hf
  refine Go.putI 5 rfl dX7_tell_2 fp_X7_61 rfl (isT_lt ha0) (isT_sh ha0) (fun h => by cases h) (Go.stt S2 eS2 ?_)
  refine Go.iconst (1 : Int32) 6 rfl dX7_tell_5 ci_1 ?_
  exact Go.irS rfl dX7_tell_6 hf
theorem dX7_isRow_0 : decode cX7_isRow 0 = .ok (.iload_n 0, 1) := by decide +kernel
theorem dX7_isRow_1 : decode cX7_isRow 1 = .ok (.i2l, 1) := by decide +kernel
theorem dX7_isRow_2 : decode cX7_isRow 2 = .ok (.lconst 0, 1) := by decide +kernel
theorem dX7_isRow_3 : decode cX7_isRow 3 = .ok (.ldc2_w 64, 3) := by decide +kernel
theorem dX7_isRow_6 : decode cX7_isRow 6 = .ok (.invokestatic 66, 3) := by decide +kernel
theorem dX7_isRow_9 : decode cX7_isRow 9 = .ok (.ireturn, 1) := by decide +kernel
def F_X7_isRow (n : Nat) (S : aSt) (a0 : Int32) : Option Int32 :=
(F_X7_in n S a0.toInt64 (0 : Int64) (5 : Int64)).bind fun r6 =>
grd (isB r6) <|
some r6
set_option maxHeartbeats 4000000 in
set_option maxRecDepth 100000 in
theorem C_X7_isRow (G : aG) (l : Launch) (n : Nat) (S : aSt) (a0 : Int32) (r : Int32)  (hf : F_X7_isRow n S a0 = some r) : Ctr G l yX7_isRow mX7_isRow (rmM 2) 97 97 S [.int a0] (some (.int r)) S := by
  refine Ctr.of (by decide) rfl rfl (Nat.le_of_ble_eq_true rfl) [(0, .int a0)] rfl ?_
  unfold F_X7_isRow at hf
  refine Go.iload_n 0 1 rfl dX7_isRow_0 rfl ?_
  refine Go.i2l 2 rfl dX7_isRow_1 ?_
  refine Go.lconst (0 : Int64) 3 rfl dX7_isRow_2 cl_0 ?_
  refine Go.ldc2 (5 : Int64) 6 rfl dX7_isRow_3 (am_mem 910 (by decide +kernel) rfl) ?_
  obtain ⟨r6, er6, hf⟩ := f_bnd hf
  refine Go.cS 9 [.long a0.toInt64, .long (0 : Int64), .long (5 : Int64)] [] (C_X7_in G l n S a0.toInt64 (0 : Int64) (5 : Int64) r6  er6) rfl dX7_isRow_6 cx_X7_66 (by decide) (by decide) rfl (Nat.le_of_ble_eq_true rfl) ?_
  obtain ⟨gb, hf⟩ := f_grd hf
  exact Go.zr rfl (isB_or gb) dX7_isRow_9 hf
theorem dX7_isText_0 : decode cX7_isText 0 = .ok (.iload_n 0, 1) := by decide +kernel
theorem dX7_isText_1 : decode cX7_isText 1 = .ok (.i2l, 1) := by decide +kernel
theorem dX7_isText_2 : decode cX7_isText 2 = .ok (.lconst 0, 1) := by decide +kernel
theorem dX7_isText_3 : decode cX7_isText 3 = .ok (.ldc2_w 70, 3) := by decide +kernel
theorem dX7_isText_6 : decode cX7_isText 6 = .ok (.invokestatic 66, 3) := by decide +kernel
theorem dX7_isText_9 : decode cX7_isText 9 = .ok (.ireturn, 1) := by decide +kernel
def F_X7_isText (n : Nat) (S : aSt) (a0 : Int32) : Option Int32 :=
(F_X7_in n S a0.toInt64 (0 : Int64) (3 : Int64)).bind fun r6 =>
grd (isB r6) <|
some r6
set_option maxHeartbeats 4000000 in
set_option maxRecDepth 100000 in
theorem C_X7_isText (G : aG) (l : Launch) (n : Nat) (S : aSt) (a0 : Int32) (r : Int32)  (hf : F_X7_isText n S a0 = some r) : Ctr G l yX7_isText mX7_isText (rmM 2) 97 97 S [.int a0] (some (.int r)) S := by
  refine Ctr.of (by decide) rfl rfl (Nat.le_of_ble_eq_true rfl) [(0, .int a0)] rfl ?_
  unfold F_X7_isText at hf
  refine Go.iload_n 0 1 rfl dX7_isText_0 rfl ?_
  refine Go.i2l 2 rfl dX7_isText_1 ?_
  refine Go.lconst (0 : Int64) 3 rfl dX7_isText_2 cl_0 ?_
  refine Go.ldc2 (3 : Int64) 6 rfl dX7_isText_3 (am_mem 949 (by decide +kernel) rfl) ?_
  obtain ⟨r6, er6, hf⟩ := f_bnd hf
  refine Go.cS 9 [.long a0.toInt64, .long (0 : Int64), .long (3 : Int64)] [] (C_X7_in G l n S a0.toInt64 (0 : Int64) (3 : Int64) r6  er6) rfl dX7_isText_6 cx_X7_66 (by decide) (by decide) rfl (Nat.le_of_ble_eq_true rfl) ?_
  obtain ⟨gb, hf⟩ := f_grd hf
  exact Go.zr rfl (isB_or gb) dX7_isText_9 hf
theorem dX7_row_0 : decode cX7_row 0 = .ok (.iload_n 1, 1) := by decide +kernel
theorem dX7_row_1 : decode cX7_row 1 = .ok (.invokestatic 72, 3) := by decide +kernel
theorem dX7_row_4 : decode cX7_row 4 = .ok (.ifCond .eq 9, 3) := by decide +kernel
theorem dX7_row_7 : decode cX7_row 7 = .ok (.iload_n 2, 1) := by decide +kernel
theorem dX7_row_8 : decode cX7_row 8 = .ok (.bipush 40, 2) := by decide +kernel
theorem dX7_row_10 : decode cX7_row 10 = .ok (.if_icmp .le 5, 3) := by decide +kernel
theorem dX7_row_13 : decode cX7_row 13 = .ok (.iconst (-1), 1) := by decide +kernel
theorem dX7_row_14 : decode cX7_row 14 = .ok (.ireturn, 1) := by decide +kernel
theorem dX7_row_15 : decode cX7_row 15 = .ok (.iload_n 2, 1) := by decide +kernel
theorem dX7_row_16 : decode cX7_row 16 = .ok (.ifCond .ge 9, 3) := by decide +kernel
theorem dX7_row_19 : decode cX7_row 19 = .ok (.aload_n 0, 1) := by decide +kernel
theorem dX7_row_20 : decode cX7_row 20 = .ok (.iconst 5, 1) := by decide +kernel
theorem dX7_row_21 : decode cX7_row 21 = .ok (.invokevirtual 76, 3) := by decide +kernel
theorem dX7_row_24 : decode cX7_row 24 = .ok (.ireturn, 1) := by decide +kernel
theorem dX7_row_25 : decode cX7_row 25 = .ok (.aload_n 0, 1) := by decide +kernel
theorem dX7_row_26 : decode cX7_row 26 = .ok (.getfield 7, 3) := by decide +kernel
theorem dX7_row_29 : decode cX7_row 29 = .ok (.iload_n 1, 1) := by decide +kernel
theorem dX7_row_30 : decode cX7_row 30 = .ok (.iload_n 2, 1) := by decide +kernel
theorem dX7_row_31 : decode cX7_row 31 = .ok (.iastore, 1) := by decide +kernel
theorem dX7_row_32 : decode cX7_row 32 = .ok (.iconst 0, 1) := by decide +kernel
theorem dX7_row_33 : decode cX7_row 33 = .ok (.istore_n 3, 1) := by decide +kernel
theorem dX7_row_34 : decode cX7_row 34 = .ok (.iload_n 3, 1) := by decide +kernel
theorem dX7_row_35 : decode cX7_row 35 = .ok (.bipush 40, 2) := by decide +kernel
theorem dX7_row_37 : decode cX7_row 37 = .ok (.if_icmp .ge 21, 3) := by decide +kernel
theorem dX7_row_40 : decode cX7_row 40 = .ok (.aload_n 0, 1) := by decide +kernel
theorem dX7_row_41 : decode cX7_row 41 = .ok (.getfield 13, 3) := by decide +kernel
theorem dX7_row_44 : decode cX7_row 44 = .ok (.bipush 40, 2) := by decide +kernel
theorem dX7_row_46 : decode cX7_row 46 = .ok (.iload_n 1, 1) := by decide +kernel
theorem dX7_row_47 : decode cX7_row 47 = .ok (.imul, 1) := by decide +kernel
theorem dX7_row_48 : decode cX7_row 48 = .ok (.iload_n 3, 1) := by decide +kernel
theorem dX7_row_49 : decode cX7_row 49 = .ok (.iadd, 1) := by decide +kernel
theorem dX7_row_50 : decode cX7_row 50 = .ok (.iconst 0, 1) := by decide +kernel
theorem dX7_row_51 : decode cX7_row 51 = .ok (.iastore, 1) := by decide +kernel
theorem dX7_row_52 : decode cX7_row 52 = .ok (.iinc 3 1, 3) := by decide +kernel
theorem dX7_row_55 : decode cX7_row 55 = .ok (.goto (-21), 3) := by decide +kernel
theorem dX7_row_58 : decode cX7_row 58 = .ok (.iload_n 2, 1) := by decide +kernel
theorem dX7_row_59 : decode cX7_row 59 = .ok (.ireturn, 1) := by decide +kernel
def F_X7_row_L34 (a0 : Nat) (a1 : Int32) (K58 : aSt → Option (Int32 × aSt)) : Nat → Int32 → aSt → Option (Int32 × aSt)
  | 0, _, _ => none
  | fu + 1, l34_3, l34S =>
    if (40 : Int32) ≤ l34_3 then (K58 l34S) else
    rfd (l34S.2.2 a0 1) 7 fun k41 =>
    grd (inb (((40 : Int32) * a1) + l34_3) (SH k41).2) <|
    nm (stI l34S k41 (((40 : Int32) * a1) + l34_3).toNatClampNeg (0 : Int32)) fun S51 =>
    F_X7_row_L34 a0 a1 K58 fu (l34_3 + (1 : Int32)) S51
def F_X7_row (n : Nat) (S : aSt) (a0 : Nat) (a1 : Int32) (a2 : Int32) : Option (Int32 × aSt) :=
(F_X7_isRow n S a1).bind fun r1 =>
if r1 = 0 then (some ((-1 : Int32), S)) else
if a2 ≤ (40 : Int32) then (if 0 ≤ a2 then (rfd (S.2.2 a0 0) 7 fun k26 =>
grd (inb a1 (SH k26).2) <|
nm (stI S k26 a1.toNatClampNeg a2) fun S31 =>
jn (fun (x58S : aSt) => (some (a2, x58S) : Option (Int32 × aSt))) fun K58 =>
F_X7_row_L34 a0 a1 K58 n (0 : Int32) S31) else
bn2 (F_X7_found n S a0 (5 : Int32)) fun r21 S21 =>
some (r21, S21)) else
some ((-1 : Int32), S)
set_option maxHeartbeats 4000000 in
set_option maxRecDepth 100000 in
theorem C_X7_row (G : aG) (l : Launch) (n : Nat) (S : aSt) (a0 : Nat) (a1 : Int32) (a2 : Int32) (r : Int32) (Sr : aSt) (ha0 : isT a0 6 = true) (hf : F_X7_row n S a0 a1 a2 = some (r, Sr)) : Ctr G l yX7_row mX7_row (rmM 3) 97 97 S [.ref a0, .int a1, .int a2] (some (.int r)) Sr := by
  refine Ctr.of (by decide) rfl rfl (Nat.le_of_ble_eq_true rfl) [(0, .ref a0), (1, .int a1), (2, .int a2)] rfl ?_
  unfold F_X7_row at hf
  refine Go.iload_n 1 1 rfl dX7_row_0 rfl ?_
  obtain ⟨r1, er1, hf⟩ := f_bnd hf
  refine Go.cS 4 [.int a1] [] (C_X7_isRow G l n S a1 r1  er1) rfl dX7_row_1 cx_X7_72 (by decide) (by decide) rfl (Nat.le_of_ble_eq_true rfl) ?_
  refine Go.if_eq 13 7 rfl dX7_row_4 rfl (fun hc => ?_) (fun hc => ?_)
  · replace hf := f_if hf hc
    refine Go.iconst (-1 : Int32) 14 rfl dX7_row_13 ci_m1 ?_
    exact Go.irS rfl dX7_row_14 hf
  · replace hf := f_el hf hc
    refine Go.iload_n 2 8 rfl dX7_row_7 rfl ?_
    refine Go.bipush (40 : Int32) 10 rfl dX7_row_8 cb_40 ?_
    refine Go.icmp_le 15 13 rfl dX7_row_10 rfl (fun hc => ?_) (fun hc => ?_)
    · replace hf := f_if hf hc
      refine Go.iload_n 2 16 rfl dX7_row_15 rfl ?_
      refine Go.if_ge 25 19 rfl dX7_row_16 rfl (fun hc => ?_) (fun hc => ?_)
      · replace hf := f_if hf hc
        refine Go.aload_n 0 26 rfl dX7_row_25 rfl ?_
        obtain ⟨k26, qk26, hk26, hf⟩ := f_rfd hf
        refine Go.getR 29 rfl dX7_row_26 fl_X7_7 rfl (isT_lt ha0) (isT_sh ha0) qk26 ?_
        refine Go.iload_n 1 30 rfl dX7_row_29 rfl ?_
        refine Go.iload_n 2 31 rfl dX7_row_30 rfl ?_
        obtain ⟨g31, hf⟩ := f_grd hf
        obtain ⟨S31, eS31, hf⟩ := f_nm hf
        refine Go.iast 32 rfl dX7_row_31 (isT_lt hk26) (isT_sh hk26) g31 (Go.stt S31 eS31 ?_)
        refine Go.iconst (0 : Int32) 33 rfl dX7_row_32 ci_0 ?_
        refine Go.istore_n 34 [(3, .int (0 : Int32)), (0, .ref a0), (1, .int a1), (2, .int a2)] rfl dX7_row_33 (by decide) rfl ?_
        obtain ⟨K58, eK58, hf⟩ := f_jn hf
        have J58 : ∀ (x58S : aSt), K58 x58S = some (r, Sr) → GoM G l 3 (TmR G (some (.int r)) 97 Sr 0 0) mX7_row 58 [(2, .int a2)] [] x58S := by
          intro x58S hf
          rw [eK58] at hf
          refine Go.iload_n 0 59 rfl dX7_row_58 rfl ?_
          exact Go.irS rfl dX7_row_59 hf
        clear eK58
        have L34 : ∀ (fu : Nat) (l34_3 : Int32) (l34S : aSt), F_X7_row_L34 a0 a1 K58 fu l34_3 l34S = some (r, Sr) → GoM G l 3 (TmR G (some (.int r)) 97 Sr 0 0) mX7_row 34 [(0, .ref a0), (1, .int a1), (2, .int a2), (3, .int l34_3)] [] l34S := by
          intro fu
          induction fu with
          | zero => intro l34_3 l34S hf; rw [F_X7_row_L34] at hf; cases hf
          | succ fu ih =>
            intro l34_3 l34S hf
            rw [F_X7_row_L34] at hf
            refine Go.iload_n 3 35 rfl dX7_row_34 rfl ?_
            refine Go.bipush (40 : Int32) 37 rfl dX7_row_35 cb_40 ?_
            refine Go.icmp_ge 58 40 rfl dX7_row_37 rfl (fun hc => ?_) (fun hc => ?_)
            · replace hf := f_if hf hc
              exact Go.sub [2] [(2, .int a2)] rfl (J58 l34S hf)
            · replace hf := f_el hf hc
              refine Go.aload_n 0 41 rfl dX7_row_40 rfl ?_
              obtain ⟨k41, qk41, hk41, hf⟩ := f_rfd hf
              refine Go.getR 44 rfl dX7_row_41 fl_X7_13 rfl (isT_lt ha0) (isT_sh ha0) qk41 ?_
              refine Go.bipush (40 : Int32) 46 rfl dX7_row_44 cb_40 ?_
              refine Go.iload_n 1 47 rfl dX7_row_46 rfl ?_
              refine Go.imul 48 rfl dX7_row_47 ?_
              refine Go.iload_n 3 49 rfl dX7_row_48 rfl ?_
              refine Go.iadd 50 rfl dX7_row_49 ?_
              refine Go.iconst (0 : Int32) 51 rfl dX7_row_50 ci_0 ?_
              obtain ⟨g51, hf⟩ := f_grd hf
              obtain ⟨S51, eS51, hf⟩ := f_nm hf
              refine Go.iast 52 rfl dX7_row_51 (isT_lt hk41) (isT_sh hk41) g51 (Go.stt S51 eS51 ?_)
              refine Go.inc 3 55 (1 : Int32) [(3, .int (l34_3 + (1 : Int32))), (0, .ref a0), (1, .int a1), (2, .int a2)] rfl dX7_row_52 rfl ci_1 (by decide) rfl ?_
              refine Go.goto 34 dX7_row_55 rfl ?_
              exact Go.sub [1, 2, 3, 0] [(0, .ref a0), (1, .int a1), (2, .int a2), (3, .int (l34_3 + (1 : Int32)))] rfl (ih (l34_3 + (1 : Int32)) S51 hf)
        exact Go.sub [1, 2, 3, 0] [(0, .ref a0), (1, .int a1), (2, .int a2), (3, .int (0 : Int32))] rfl (L34 n (0 : Int32) S31 hf)
      · replace hf := f_el hf hc
        refine Go.aload_n 0 20 rfl dX7_row_19 rfl ?_
        refine Go.iconst (5 : Int32) 21 rfl dX7_row_20 ci_5 ?_
        obtain ⟨r21, S21, er21, hf⟩ := f_bn2 hf
        refine Go.cV 24 [.int (5 : Int32)] [] (C_X7_found G l n S a0 (5 : Int32) r21 S21 ha0 er21) rfl dX7_row_21 cv_X7_76 ha0 (by decide) (by decide) rfl (Nat.le_of_ble_eq_true rfl) ?_
        exact Go.irS rfl dX7_row_24 hf
    · replace hf := f_el hf hc
      refine Go.iconst (-1 : Int32) 14 rfl dX7_row_13 ci_m1 ?_
      exact Go.irS rfl dX7_row_14 hf
theorem dX7_lay_0 : decode cX7_lay 0 = .ok (.iload_n 1, 1) := by decide +kernel
theorem dX7_lay_1 : decode cX7_lay 1 = .ok (.invokestatic 72, 3) := by decide +kernel
theorem dX7_lay_4 : decode cX7_lay 4 = .ok (.ifCond .ne 5, 3) := by decide +kernel
theorem dX7_lay_7 : decode cX7_lay 7 = .ok (.iconst (-1), 1) := by decide +kernel
theorem dX7_lay_8 : decode cX7_lay 8 = .ok (.ireturn, 1) := by decide +kernel
theorem dX7_lay_9 : decode cX7_lay 9 = .ok (.aload_n 0, 1) := by decide +kernel
theorem dX7_lay_10 : decode cX7_lay 10 = .ok (.getfield 7, 3) := by decide +kernel
theorem dX7_lay_13 : decode cX7_lay 13 = .ok (.iload_n 1, 1) := by decide +kernel
theorem dX7_lay_14 : decode cX7_lay 14 = .ok (.iaload, 1) := by decide +kernel
theorem dX7_lay_15 : decode cX7_lay 15 = .ok (.ifCond .ge 9, 3) := by decide +kernel
theorem dX7_lay_18 : decode cX7_lay 18 = .ok (.aload_n 0, 1) := by decide +kernel
theorem dX7_lay_19 : decode cX7_lay 19 = .ok (.iconst 1, 1) := by decide +kernel
theorem dX7_lay_20 : decode cX7_lay 20 = .ok (.invokevirtual 76, 3) := by decide +kernel
theorem dX7_lay_23 : decode cX7_lay 23 = .ok (.ireturn, 1) := by decide +kernel
theorem dX7_lay_24 : decode cX7_lay 24 = .ok (.iload_n 2, 1) := by decide +kernel
theorem dX7_lay_25 : decode cX7_lay 25 = .ok (.i2l, 1) := by decide +kernel
theorem dX7_lay_26 : decode cX7_lay 26 = .ok (.lconst 0, 1) := by decide +kernel
theorem dX7_lay_27 : decode cX7_lay 27 = .ok (.aload_n 0, 1) := by decide +kernel
theorem dX7_lay_28 : decode cX7_lay 28 = .ok (.getfield 7, 3) := by decide +kernel
theorem dX7_lay_31 : decode cX7_lay 31 = .ok (.iload_n 1, 1) := by decide +kernel
theorem dX7_lay_32 : decode cX7_lay 32 = .ok (.iaload, 1) := by decide +kernel
theorem dX7_lay_33 : decode cX7_lay 33 = .ok (.iconst 1, 1) := by decide +kernel
theorem dX7_lay_34 : decode cX7_lay 34 = .ok (.isub, 1) := by decide +kernel
theorem dX7_lay_35 : decode cX7_lay 35 = .ok (.i2l, 1) := by decide +kernel
theorem dX7_lay_36 : decode cX7_lay 36 = .ok (.invokestatic 66, 3) := by decide +kernel
theorem dX7_lay_39 : decode cX7_lay 39 = .ok (.ifCond .ne 9, 3) := by decide +kernel
theorem dX7_lay_42 : decode cX7_lay 42 = .ok (.aload_n 0, 1) := by decide +kernel
theorem dX7_lay_43 : decode cX7_lay 43 = .ok (.iconst 2, 1) := by decide +kernel
theorem dX7_lay_44 : decode cX7_lay 44 = .ok (.invokevirtual 76, 3) := by decide +kernel
theorem dX7_lay_47 : decode cX7_lay 47 = .ok (.ireturn, 1) := by decide +kernel
theorem dX7_lay_48 : decode cX7_lay 48 = .ok (.aload_n 0, 1) := by decide +kernel
theorem dX7_lay_49 : decode cX7_lay 49 = .ok (.getfield 13, 3) := by decide +kernel
theorem dX7_lay_52 : decode cX7_lay 52 = .ok (.bipush 40, 2) := by decide +kernel
theorem dX7_lay_54 : decode cX7_lay 54 = .ok (.iload_n 1, 1) := by decide +kernel
theorem dX7_lay_55 : decode cX7_lay 55 = .ok (.imul, 1) := by decide +kernel
theorem dX7_lay_56 : decode cX7_lay 56 = .ok (.iload_n 2, 1) := by decide +kernel
theorem dX7_lay_57 : decode cX7_lay 57 = .ok (.iadd, 1) := by decide +kernel
theorem dX7_lay_58 : decode cX7_lay 58 = .ok (.iaload, 1) := by decide +kernel
theorem dX7_lay_59 : decode cX7_lay 59 = .ok (.istore 4, 2) := by decide +kernel
theorem dX7_lay_61 : decode cX7_lay 61 = .ok (.aload_n 0, 1) := by decide +kernel
theorem dX7_lay_62 : decode cX7_lay 62 = .ok (.getfield 13, 3) := by decide +kernel
theorem dX7_lay_65 : decode cX7_lay 65 = .ok (.bipush 40, 2) := by decide +kernel
theorem dX7_lay_67 : decode cX7_lay 67 = .ok (.iload_n 1, 1) := by decide +kernel
theorem dX7_lay_68 : decode cX7_lay 68 = .ok (.imul, 1) := by decide +kernel
theorem dX7_lay_69 : decode cX7_lay 69 = .ok (.iload_n 2, 1) := by decide +kernel
theorem dX7_lay_70 : decode cX7_lay 70 = .ok (.iadd, 1) := by decide +kernel
theorem dX7_lay_71 : decode cX7_lay 71 = .ok (.iload_n 3, 1) := by decide +kernel
theorem dX7_lay_72 : decode cX7_lay 72 = .ok (.iastore, 1) := by decide +kernel
theorem dX7_lay_73 : decode cX7_lay 73 = .ok (.aload_n 0, 1) := by decide +kernel
theorem dX7_lay_74 : decode cX7_lay 74 = .ok (.iload 4, 2) := by decide +kernel
theorem dX7_lay_76 : decode cX7_lay 76 = .ok (.invokevirtual 80, 3) := by decide +kernel
theorem dX7_lay_79 : decode cX7_lay 79 = .ok (.ireturn, 1) := by decide +kernel
def F_X7_lay (n : Nat) (S : aSt) (a0 : Nat) (a1 : Int32) (a2 : Int32) (a3 : Int32) : Option (Int32 × aSt) :=
(F_X7_isRow n S a1).bind fun r1 =>
if r1 = 0 then (some ((-1 : Int32), S)) else
rfd (S.2.2 a0 0) 7 fun k10 =>
grd (inb a1 (SH k10).2) <|
if 0 ≤ (S.1 k10 a1.toNatClampNeg) then (grd (inb a1 (SH k10).2) <|
(F_X7_in n S a2.toInt64 (0 : Int64) ((S.1 k10 a1.toNatClampNeg) - (1 : Int32)).toInt64).bind fun r36 =>
if r36 = 0 then (bn2 (F_X7_found n S a0 (2 : Int32)) fun r44 S44 =>
some (r44, S44)) else
rfd (S.2.2 a0 1) 7 fun k49 =>
grd (inb (((40 : Int32) * a1) + a2) (SH k49).2) <|
nm (S.1 k49 (((40 : Int32) * a1) + a2).toNatClampNeg) fun v59 =>
grd (inb (((40 : Int32) * a1) + a2) (SH k49).2) <|
nm (stI S k49 (((40 : Int32) * a1) + a2).toNatClampNeg a3) fun S72 =>
bn2 (F_X7_tell n S72 a0 v59) fun r76 S76 =>
some (r76, S76)) else
bn2 (F_X7_found n S a0 (1 : Int32)) fun r20 S20 =>
some (r20, S20)
set_option maxHeartbeats 4000000 in
set_option maxRecDepth 100000 in
theorem C_X7_lay (G : aG) (l : Launch) (n : Nat) (S : aSt) (a0 : Nat) (a1 : Int32) (a2 : Int32) (a3 : Int32) (r : Int32) (Sr : aSt) (ha0 : isT a0 6 = true) (hf : F_X7_lay n S a0 a1 a2 a3 = some (r, Sr)) : Ctr G l yX7_lay mX7_lay (rmM 3) 97 97 S [.ref a0, .int a1, .int a2, .int a3] (some (.int r)) Sr := by
  refine Ctr.of (by decide) rfl rfl (Nat.le_of_ble_eq_true rfl) [(0, .ref a0), (1, .int a1), (2, .int a2), (3, .int a3)] rfl ?_
  unfold F_X7_lay at hf
  refine Go.iload_n 1 1 rfl dX7_lay_0 rfl ?_
  obtain ⟨r1, er1, hf⟩ := f_bnd hf
  refine Go.cS 4 [.int a1] [] (C_X7_isRow G l n S a1 r1  er1) rfl dX7_lay_1 cx_X7_72 (by decide) (by decide) rfl (Nat.le_of_ble_eq_true rfl) ?_
  refine Go.if_ne 9 7 rfl dX7_lay_4 rfl (fun hc => ?_) (fun hc => ?_)
  · replace hf := f_el hf hc
    refine Go.aload_n 0 10 rfl dX7_lay_9 rfl ?_
    obtain ⟨k10, qk10, hk10, hf⟩ := f_rfd hf
    refine Go.getR 13 rfl dX7_lay_10 fl_X7_7 rfl (isT_lt ha0) (isT_sh ha0) qk10 ?_
    refine Go.iload_n 1 14 rfl dX7_lay_13 rfl ?_
    obtain ⟨g14, hf⟩ := f_grd hf
    refine Go.iald 15 rfl dX7_lay_14 (isT_lt hk10) (isT_sh hk10) g14 ?_
    refine Go.if_ge 24 18 rfl dX7_lay_15 rfl (fun hc => ?_) (fun hc => ?_)
    · replace hf := f_if hf hc
      refine Go.iload_n 2 25 rfl dX7_lay_24 rfl ?_
      refine Go.i2l 26 rfl dX7_lay_25 ?_
      refine Go.lconst (0 : Int64) 27 rfl dX7_lay_26 cl_0 ?_
      refine Go.aload_n 0 28 rfl dX7_lay_27 rfl ?_
      refine Go.getR 31 rfl dX7_lay_28 fl_X7_7 rfl (isT_lt ha0) (isT_sh ha0) qk10 ?_
      refine Go.iload_n 1 32 rfl dX7_lay_31 rfl ?_
      obtain ⟨g32, hf⟩ := f_grd hf
      refine Go.iald 33 rfl dX7_lay_32 (isT_lt hk10) (isT_sh hk10) g32 ?_
      refine Go.iconst (1 : Int32) 34 rfl dX7_lay_33 ci_1 ?_
      refine Go.isub 35 rfl dX7_lay_34 ?_
      refine Go.i2l 36 rfl dX7_lay_35 ?_
      obtain ⟨r36, er36, hf⟩ := f_bnd hf
      refine Go.cS 39 [.long a2.toInt64, .long (0 : Int64), .long ((S.1 k10 a1.toNatClampNeg) - (1 : Int32)).toInt64] [] (C_X7_in G l n S a2.toInt64 (0 : Int64) ((S.1 k10 a1.toNatClampNeg) - (1 : Int32)).toInt64 r36  er36) rfl dX7_lay_36 cx_X7_66 (by decide) (by decide) rfl (Nat.le_of_ble_eq_true rfl) ?_
      refine Go.if_ne 48 42 rfl dX7_lay_39 rfl (fun hc => ?_) (fun hc => ?_)
      · replace hf := f_el hf hc
        refine Go.aload_n 0 49 rfl dX7_lay_48 rfl ?_
        obtain ⟨k49, qk49, hk49, hf⟩ := f_rfd hf
        refine Go.getR 52 rfl dX7_lay_49 fl_X7_13 rfl (isT_lt ha0) (isT_sh ha0) qk49 ?_
        refine Go.bipush (40 : Int32) 54 rfl dX7_lay_52 cb_40 ?_
        refine Go.iload_n 1 55 rfl dX7_lay_54 rfl ?_
        refine Go.imul 56 rfl dX7_lay_55 ?_
        refine Go.iload_n 2 57 rfl dX7_lay_56 rfl ?_
        refine Go.iadd 58 rfl dX7_lay_57 ?_
        obtain ⟨g58, hf⟩ := f_grd hf
        refine Go.iald 59 rfl dX7_lay_58 (isT_lt hk49) (isT_sh hk49) g58 ?_
        obtain ⟨v59, ev59, hf⟩ := f_nm hf
        refine Go.topi v59 ev59 ?_
        refine Go.istore 61 [(4, .int v59), (0, .ref a0), (1, .int a1), (2, .int a2), (3, .int a3)] rfl dX7_lay_59 (by decide) rfl ?_
        refine Go.aload_n 1 62 rfl dX7_lay_61 rfl ?_
        refine Go.getR 65 rfl dX7_lay_62 fl_X7_13 rfl (isT_lt ha0) (isT_sh ha0) qk49 ?_
        refine Go.bipush (40 : Int32) 67 rfl dX7_lay_65 cb_40 ?_
        refine Go.iload_n 2 68 rfl dX7_lay_67 rfl ?_
        refine Go.imul 69 rfl dX7_lay_68 ?_
        refine Go.iload_n 3 70 rfl dX7_lay_69 rfl ?_
        refine Go.iadd 71 rfl dX7_lay_70 ?_
        refine Go.iload_n 4 72 rfl dX7_lay_71 rfl ?_
        obtain ⟨g72, hf⟩ := f_grd hf
        obtain ⟨S72, eS72, hf⟩ := f_nm hf
        refine Go.iast 73 rfl dX7_lay_72 (isT_lt hk49) (isT_sh hk49) g72 (Go.stt S72 eS72 ?_)
        refine Go.aload_n 1 74 rfl dX7_lay_73 rfl ?_
        refine Go.iload 0 76 rfl dX7_lay_74 rfl ?_
        obtain ⟨r76, S76, er76, hf⟩ := f_bn2 hf
        refine Go.cV 79 [.int v59] [] (C_X7_tell G l n S72 a0 v59 r76 S76 ha0 er76) rfl dX7_lay_76 cv_X7_80 ha0 (by decide) (by decide) rfl (Nat.le_of_ble_eq_true rfl) ?_
        exact Go.irS rfl dX7_lay_79 hf
      · replace hf := f_if hf hc
        refine Go.aload_n 0 43 rfl dX7_lay_42 rfl ?_
        refine Go.iconst (2 : Int32) 44 rfl dX7_lay_43 ci_2 ?_
        obtain ⟨r44, S44, er44, hf⟩ := f_bn2 hf
        refine Go.cV 47 [.int (2 : Int32)] [] (C_X7_found G l n S a0 (2 : Int32) r44 S44 ha0 er44) rfl dX7_lay_44 cv_X7_76 ha0 (by decide) (by decide) rfl (Nat.le_of_ble_eq_true rfl) ?_
        exact Go.irS rfl dX7_lay_47 hf
    · replace hf := f_el hf hc
      refine Go.aload_n 0 19 rfl dX7_lay_18 rfl ?_
      refine Go.iconst (1 : Int32) 20 rfl dX7_lay_19 ci_1 ?_
      obtain ⟨r20, S20, er20, hf⟩ := f_bn2 hf
      refine Go.cV 23 [.int (1 : Int32)] [] (C_X7_found G l n S a0 (1 : Int32) r20 S20 ha0 er20) rfl dX7_lay_20 cv_X7_76 ha0 (by decide) (by decide) rfl (Nat.le_of_ble_eq_true rfl) ?_
      exact Go.irS rfl dX7_lay_23 hf
  · replace hf := f_if hf hc
    refine Go.iconst (-1 : Int32) 8 rfl dX7_lay_7 ci_m1 ?_
    exact Go.irS rfl dX7_lay_8 hf
theorem dX7_at_0 : decode cX7_at 0 = .ok (.iload_n 1, 1) := by decide +kernel
theorem dX7_at_1 : decode cX7_at 1 = .ok (.invokestatic 72, 3) := by decide +kernel
theorem dX7_at_4 : decode cX7_at 4 = .ok (.ifCond .ne 5, 3) := by decide +kernel
theorem dX7_at_7 : decode cX7_at 7 = .ok (.iconst (-1), 1) := by decide +kernel
theorem dX7_at_8 : decode cX7_at 8 = .ok (.ireturn, 1) := by decide +kernel
theorem dX7_at_9 : decode cX7_at 9 = .ok (.aload_n 0, 1) := by decide +kernel
theorem dX7_at_10 : decode cX7_at 10 = .ok (.getfield 7, 3) := by decide +kernel
theorem dX7_at_13 : decode cX7_at 13 = .ok (.iload_n 1, 1) := by decide +kernel
theorem dX7_at_14 : decode cX7_at 14 = .ok (.iaload, 1) := by decide +kernel
theorem dX7_at_15 : decode cX7_at 15 = .ok (.ifCond .ge 9, 3) := by decide +kernel
theorem dX7_at_18 : decode cX7_at 18 = .ok (.aload_n 0, 1) := by decide +kernel
theorem dX7_at_19 : decode cX7_at 19 = .ok (.iconst 1, 1) := by decide +kernel
theorem dX7_at_20 : decode cX7_at 20 = .ok (.invokevirtual 76, 3) := by decide +kernel
theorem dX7_at_23 : decode cX7_at 23 = .ok (.ireturn, 1) := by decide +kernel
theorem dX7_at_24 : decode cX7_at 24 = .ok (.iload_n 2, 1) := by decide +kernel
theorem dX7_at_25 : decode cX7_at 25 = .ok (.i2l, 1) := by decide +kernel
theorem dX7_at_26 : decode cX7_at 26 = .ok (.lconst 0, 1) := by decide +kernel
theorem dX7_at_27 : decode cX7_at 27 = .ok (.aload_n 0, 1) := by decide +kernel
theorem dX7_at_28 : decode cX7_at 28 = .ok (.getfield 7, 3) := by decide +kernel
theorem dX7_at_31 : decode cX7_at 31 = .ok (.iload_n 1, 1) := by decide +kernel
theorem dX7_at_32 : decode cX7_at 32 = .ok (.iaload, 1) := by decide +kernel
theorem dX7_at_33 : decode cX7_at 33 = .ok (.iconst 1, 1) := by decide +kernel
theorem dX7_at_34 : decode cX7_at 34 = .ok (.isub, 1) := by decide +kernel
theorem dX7_at_35 : decode cX7_at 35 = .ok (.i2l, 1) := by decide +kernel
theorem dX7_at_36 : decode cX7_at 36 = .ok (.invokestatic 66, 3) := by decide +kernel
theorem dX7_at_39 : decode cX7_at 39 = .ok (.ifCond .eq 21, 3) := by decide +kernel
theorem dX7_at_42 : decode cX7_at 42 = .ok (.aload_n 0, 1) := by decide +kernel
theorem dX7_at_43 : decode cX7_at 43 = .ok (.aload_n 0, 1) := by decide +kernel
theorem dX7_at_44 : decode cX7_at 44 = .ok (.getfield 13, 3) := by decide +kernel
theorem dX7_at_47 : decode cX7_at 47 = .ok (.bipush 40, 2) := by decide +kernel
theorem dX7_at_49 : decode cX7_at 49 = .ok (.iload_n 1, 1) := by decide +kernel
theorem dX7_at_50 : decode cX7_at 50 = .ok (.imul, 1) := by decide +kernel
theorem dX7_at_51 : decode cX7_at 51 = .ok (.iload_n 2, 1) := by decide +kernel
theorem dX7_at_52 : decode cX7_at 52 = .ok (.iadd, 1) := by decide +kernel
theorem dX7_at_53 : decode cX7_at 53 = .ok (.iaload, 1) := by decide +kernel
theorem dX7_at_54 : decode cX7_at 54 = .ok (.invokevirtual 80, 3) := by decide +kernel
theorem dX7_at_57 : decode cX7_at 57 = .ok (.goto 8, 3) := by decide +kernel
theorem dX7_at_60 : decode cX7_at 60 = .ok (.aload_n 0, 1) := by decide +kernel
theorem dX7_at_61 : decode cX7_at 61 = .ok (.iconst 2, 1) := by decide +kernel
theorem dX7_at_62 : decode cX7_at 62 = .ok (.invokevirtual 76, 3) := by decide +kernel
theorem dX7_at_65 : decode cX7_at 65 = .ok (.ireturn, 1) := by decide +kernel
def F_X7_at (n : Nat) (S : aSt) (a0 : Nat) (a1 : Int32) (a2 : Int32) : Option (Int32 × aSt) :=
(F_X7_isRow n S a1).bind fun r1 =>
if r1 = 0 then (some ((-1 : Int32), S)) else
rfd (S.2.2 a0 0) 7 fun k10 =>
grd (inb a1 (SH k10).2) <|
if 0 ≤ (S.1 k10 a1.toNatClampNeg) then (grd (inb a1 (SH k10).2) <|
(F_X7_in n S a2.toInt64 (0 : Int64) ((S.1 k10 a1.toNatClampNeg) - (1 : Int32)).toInt64).bind fun r36 =>
if r36 = 0 then (bn2 (F_X7_found n S a0 (2 : Int32)) fun r62 S62 =>
some (r62, S62)) else
rfd (S.2.2 a0 1) 7 fun k44 =>
grd (inb (((40 : Int32) * a1) + a2) (SH k44).2) <|
bn2 (F_X7_tell n S a0 (S.1 k44 (((40 : Int32) * a1) + a2).toNatClampNeg)) fun r54 S54 =>
some (r54, S54)) else
bn2 (F_X7_found n S a0 (1 : Int32)) fun r20 S20 =>
some (r20, S20)
set_option maxHeartbeats 4000000 in
set_option maxRecDepth 100000 in
theorem C_X7_at (G : aG) (l : Launch) (n : Nat) (S : aSt) (a0 : Nat) (a1 : Int32) (a2 : Int32) (r : Int32) (Sr : aSt) (ha0 : isT a0 6 = true) (hf : F_X7_at n S a0 a1 a2 = some (r, Sr)) : Ctr G l yX7_at mX7_at (rmM 3) 97 97 S [.ref a0, .int a1, .int a2] (some (.int r)) Sr := by
  refine Ctr.of (by decide) rfl rfl (Nat.le_of_ble_eq_true rfl) [(0, .ref a0), (1, .int a1), (2, .int a2)] rfl ?_
  unfold F_X7_at at hf
  refine Go.iload_n 1 1 rfl dX7_at_0 rfl ?_
  obtain ⟨r1, er1, hf⟩ := f_bnd hf
  refine Go.cS 4 [.int a1] [] (C_X7_isRow G l n S a1 r1  er1) rfl dX7_at_1 cx_X7_72 (by decide) (by decide) rfl (Nat.le_of_ble_eq_true rfl) ?_
  refine Go.if_ne 9 7 rfl dX7_at_4 rfl (fun hc => ?_) (fun hc => ?_)
  · replace hf := f_el hf hc
    refine Go.aload_n 0 10 rfl dX7_at_9 rfl ?_
    obtain ⟨k10, qk10, hk10, hf⟩ := f_rfd hf
    refine Go.getR 13 rfl dX7_at_10 fl_X7_7 rfl (isT_lt ha0) (isT_sh ha0) qk10 ?_
    refine Go.iload_n 1 14 rfl dX7_at_13 rfl ?_
    obtain ⟨g14, hf⟩ := f_grd hf
    refine Go.iald 15 rfl dX7_at_14 (isT_lt hk10) (isT_sh hk10) g14 ?_
    refine Go.if_ge 24 18 rfl dX7_at_15 rfl (fun hc => ?_) (fun hc => ?_)
    · replace hf := f_if hf hc
      refine Go.iload_n 2 25 rfl dX7_at_24 rfl ?_
      refine Go.i2l 26 rfl dX7_at_25 ?_
      refine Go.lconst (0 : Int64) 27 rfl dX7_at_26 cl_0 ?_
      refine Go.aload_n 0 28 rfl dX7_at_27 rfl ?_
      refine Go.getR 31 rfl dX7_at_28 fl_X7_7 rfl (isT_lt ha0) (isT_sh ha0) qk10 ?_
      refine Go.iload_n 1 32 rfl dX7_at_31 rfl ?_
      obtain ⟨g32, hf⟩ := f_grd hf
      refine Go.iald 33 rfl dX7_at_32 (isT_lt hk10) (isT_sh hk10) g32 ?_
      refine Go.iconst (1 : Int32) 34 rfl dX7_at_33 ci_1 ?_
      refine Go.isub 35 rfl dX7_at_34 ?_
      refine Go.i2l 36 rfl dX7_at_35 ?_
      obtain ⟨r36, er36, hf⟩ := f_bnd hf
      refine Go.cS 39 [.long a2.toInt64, .long (0 : Int64), .long ((S.1 k10 a1.toNatClampNeg) - (1 : Int32)).toInt64] [] (C_X7_in G l n S a2.toInt64 (0 : Int64) ((S.1 k10 a1.toNatClampNeg) - (1 : Int32)).toInt64 r36  er36) rfl dX7_at_36 cx_X7_66 (by decide) (by decide) rfl (Nat.le_of_ble_eq_true rfl) ?_
      refine Go.if_eq 60 42 rfl dX7_at_39 rfl (fun hc => ?_) (fun hc => ?_)
      · replace hf := f_if hf hc
        refine Go.aload_n 0 61 rfl dX7_at_60 rfl ?_
        refine Go.iconst (2 : Int32) 62 rfl dX7_at_61 ci_2 ?_
        obtain ⟨r62, S62, er62, hf⟩ := f_bn2 hf
        refine Go.cV 65 [.int (2 : Int32)] [] (C_X7_found G l n S a0 (2 : Int32) r62 S62 ha0 er62) rfl dX7_at_62 cv_X7_76 ha0 (by decide) (by decide) rfl (Nat.le_of_ble_eq_true rfl) ?_
        exact Go.irS rfl dX7_at_65 hf
      · replace hf := f_el hf hc
        refine Go.aload_n 0 43 rfl dX7_at_42 rfl ?_
        refine Go.aload_n 0 44 rfl dX7_at_43 rfl ?_
        obtain ⟨k44, qk44, hk44, hf⟩ := f_rfd hf
        refine Go.getR 47 rfl dX7_at_44 fl_X7_13 rfl (isT_lt ha0) (isT_sh ha0) qk44 ?_
        refine Go.bipush (40 : Int32) 49 rfl dX7_at_47 cb_40 ?_
        refine Go.iload_n 1 50 rfl dX7_at_49 rfl ?_
        refine Go.imul 51 rfl dX7_at_50 ?_
        refine Go.iload_n 2 52 rfl dX7_at_51 rfl ?_
        refine Go.iadd 53 rfl dX7_at_52 ?_
        obtain ⟨g53, hf⟩ := f_grd hf
        refine Go.iald 54 rfl dX7_at_53 (isT_lt hk44) (isT_sh hk44) g53 ?_
        obtain ⟨r54, S54, er54, hf⟩ := f_bn2 hf
        refine Go.cV 57 [.int (S.1 k44 (((40 : Int32) * a1) + a2).toNatClampNeg)] [] (C_X7_tell G l n S a0 (S.1 k44 (((40 : Int32) * a1) + a2).toNatClampNeg) r54 S54 ha0 er54) rfl dX7_at_54 cv_X7_80 ha0 (by decide) (by decide) rfl (Nat.le_of_ble_eq_true rfl) ?_
        refine Go.goto 65 dX7_at_57 rfl ?_
        exact Go.irS rfl dX7_at_65 hf
    · replace hf := f_el hf hc
      refine Go.aload_n 0 19 rfl dX7_at_18 rfl ?_
      refine Go.iconst (1 : Int32) 20 rfl dX7_at_19 ci_1 ?_
      obtain ⟨r20, S20, er20, hf⟩ := f_bn2 hf
      refine Go.cV 23 [.int (1 : Int32)] [] (C_X7_found G l n S a0 (1 : Int32) r20 S20 ha0 er20) rfl dX7_at_20 cv_X7_76 ha0 (by decide) (by decide) rfl (Nat.le_of_ble_eq_true rfl) ?_
      exact Go.irS rfl dX7_at_23 hf
  · replace hf := f_if hf hc
    refine Go.iconst (-1 : Int32) 8 rfl dX7_at_7 ci_m1 ?_
    exact Go.irS rfl dX7_at_8 hf
theorem dX7_tear_0 : decode cX7_tear 0 = .ok (.iload_n 1, 1) := by decide +kernel
theorem dX7_tear_1 : decode cX7_tear 1 = .ok (.invokestatic 72, 3) := by decide +kernel
theorem dX7_tear_4 : decode cX7_tear 4 = .ok (.ifCond .ne 5, 3) := by decide +kernel
theorem dX7_tear_7 : decode cX7_tear 7 = .ok (.iconst (-1), 1) := by decide +kernel
theorem dX7_tear_8 : decode cX7_tear 8 = .ok (.ireturn, 1) := by decide +kernel
theorem dX7_tear_9 : decode cX7_tear 9 = .ok (.aload_n 0, 1) := by decide +kernel
theorem dX7_tear_10 : decode cX7_tear 10 = .ok (.getfield 7, 3) := by decide +kernel
theorem dX7_tear_13 : decode cX7_tear 13 = .ok (.iload_n 1, 1) := by decide +kernel
theorem dX7_tear_14 : decode cX7_tear 14 = .ok (.iaload, 1) := by decide +kernel
theorem dX7_tear_15 : decode cX7_tear 15 = .ok (.ifCond .ge 9, 3) := by decide +kernel
theorem dX7_tear_18 : decode cX7_tear 18 = .ok (.aload_n 0, 1) := by decide +kernel
theorem dX7_tear_19 : decode cX7_tear 19 = .ok (.iconst 1, 1) := by decide +kernel
theorem dX7_tear_20 : decode cX7_tear 20 = .ok (.invokevirtual 76, 3) := by decide +kernel
theorem dX7_tear_23 : decode cX7_tear 23 = .ok (.ireturn, 1) := by decide +kernel
theorem dX7_tear_24 : decode cX7_tear 24 = .ok (.aload_n 0, 1) := by decide +kernel
theorem dX7_tear_25 : decode cX7_tear 25 = .ok (.getfield 7, 3) := by decide +kernel
theorem dX7_tear_28 : decode cX7_tear 28 = .ok (.iload_n 1, 1) := by decide +kernel
theorem dX7_tear_29 : decode cX7_tear 29 = .ok (.iconst (-1), 1) := by decide +kernel
theorem dX7_tear_30 : decode cX7_tear 30 = .ok (.iastore, 1) := by decide +kernel
theorem dX7_tear_31 : decode cX7_tear 31 = .ok (.iconst 1, 1) := by decide +kernel
theorem dX7_tear_32 : decode cX7_tear 32 = .ok (.ireturn, 1) := by decide +kernel
def F_X7_tear (n : Nat) (S : aSt) (a0 : Nat) (a1 : Int32) : Option (Int32 × aSt) :=
(F_X7_isRow n S a1).bind fun r1 =>
if r1 = 0 then (some ((-1 : Int32), S)) else
rfd (S.2.2 a0 0) 7 fun k10 =>
grd (inb a1 (SH k10).2) <|
if 0 ≤ (S.1 k10 a1.toNatClampNeg) then (grd (inb a1 (SH k10).2) <|
nm (stI S k10 a1.toNatClampNeg (-1 : Int32)) fun S30 =>
some ((1 : Int32), S30)) else
bn2 (F_X7_found n S a0 (1 : Int32)) fun r20 S20 =>
some (r20, S20)
set_option maxHeartbeats 4000000 in
set_option maxRecDepth 100000 in
theorem C_X7_tear (G : aG) (l : Launch) (n : Nat) (S : aSt) (a0 : Nat) (a1 : Int32) (r : Int32) (Sr : aSt) (ha0 : isT a0 6 = true) (hf : F_X7_tear n S a0 a1 = some (r, Sr)) : Ctr G l yX7_tear mX7_tear (rmM 3) 97 97 S [.ref a0, .int a1] (some (.int r)) Sr := by
  refine Ctr.of (by decide) rfl rfl (Nat.le_of_ble_eq_true rfl) [(0, .ref a0), (1, .int a1)] rfl ?_
  unfold F_X7_tear at hf
  refine Go.iload_n 1 1 rfl dX7_tear_0 rfl ?_
  obtain ⟨r1, er1, hf⟩ := f_bnd hf
  refine Go.cS 4 [.int a1] [] (C_X7_isRow G l n S a1 r1  er1) rfl dX7_tear_1 cx_X7_72 (by decide) (by decide) rfl (Nat.le_of_ble_eq_true rfl) ?_
  refine Go.if_ne 9 7 rfl dX7_tear_4 rfl (fun hc => ?_) (fun hc => ?_)
  · replace hf := f_el hf hc
    refine Go.aload_n 0 10 rfl dX7_tear_9 rfl ?_
    obtain ⟨k10, qk10, hk10, hf⟩ := f_rfd hf
    refine Go.getR 13 rfl dX7_tear_10 fl_X7_7 rfl (isT_lt ha0) (isT_sh ha0) qk10 ?_
    refine Go.iload_n 1 14 rfl dX7_tear_13 rfl ?_
    obtain ⟨g14, hf⟩ := f_grd hf
    refine Go.iald 15 rfl dX7_tear_14 (isT_lt hk10) (isT_sh hk10) g14 ?_
    refine Go.if_ge 24 18 rfl dX7_tear_15 rfl (fun hc => ?_) (fun hc => ?_)
    · replace hf := f_if hf hc
      refine Go.aload_n 0 25 rfl dX7_tear_24 rfl ?_
      refine Go.getR 28 rfl dX7_tear_25 fl_X7_7 rfl (isT_lt ha0) (isT_sh ha0) qk10 ?_
      refine Go.iload_n 1 29 rfl dX7_tear_28 rfl ?_
      refine Go.iconst (-1 : Int32) 30 rfl dX7_tear_29 ci_m1 ?_
      obtain ⟨g30, hf⟩ := f_grd hf
      obtain ⟨S30, eS30, hf⟩ := f_nm hf
      refine Go.iast 31 rfl dX7_tear_30 (isT_lt hk10) (isT_sh hk10) g30 (Go.stt S30 eS30 ?_)
      refine Go.iconst (1 : Int32) 32 rfl dX7_tear_31 ci_1 ?_
      exact Go.irS rfl dX7_tear_32 hf
    · replace hf := f_el hf hc
      refine Go.aload_n 0 19 rfl dX7_tear_18 rfl ?_
      refine Go.iconst (1 : Int32) 20 rfl dX7_tear_19 ci_1 ?_
      obtain ⟨r20, S20, er20, hf⟩ := f_bn2 hf
      refine Go.cV 23 [.int (1 : Int32)] [] (C_X7_found G l n S a0 (1 : Int32) r20 S20 ha0 er20) rfl dX7_tear_20 cv_X7_76 ha0 (by decide) (by decide) rfl (Nat.le_of_ble_eq_true rfl) ?_
      exact Go.irS rfl dX7_tear_23 hf
  · replace hf := f_if hf hc
    refine Go.iconst (-1 : Int32) 8 rfl dX7_tear_7 ci_m1 ?_
    exact Go.irS rfl dX7_tear_8 hf
theorem dX7_copy_0 : decode cX7_copy 0 = .ok (.iload_n 1, 1) := by decide +kernel
theorem dX7_copy_1 : decode cX7_copy 1 = .ok (.invokestatic 72, 3) := by decide +kernel
theorem dX7_copy_4 : decode cX7_copy 4 = .ok (.ifCond .eq 10, 3) := by decide +kernel
theorem dX7_copy_7 : decode cX7_copy 7 = .ok (.iload_n 3, 1) := by decide +kernel
theorem dX7_copy_8 : decode cX7_copy 8 = .ok (.invokestatic 72, 3) := by decide +kernel
theorem dX7_copy_11 : decode cX7_copy 11 = .ok (.ifCond .ne 5, 3) := by decide +kernel
theorem dX7_copy_14 : decode cX7_copy 14 = .ok (.iconst (-1), 1) := by decide +kernel
theorem dX7_copy_15 : decode cX7_copy 15 = .ok (.ireturn, 1) := by decide +kernel
theorem dX7_copy_16 : decode cX7_copy 16 = .ok (.iload 5, 2) := by decide +kernel
theorem dX7_copy_18 : decode cX7_copy 18 = .ok (.ifCond .ge 9, 3) := by decide +kernel
theorem dX7_copy_21 : decode cX7_copy 21 = .ok (.aload_n 0, 1) := by decide +kernel
theorem dX7_copy_22 : decode cX7_copy 22 = .ok (.iconst 5, 1) := by decide +kernel
theorem dX7_copy_23 : decode cX7_copy 23 = .ok (.invokevirtual 76, 3) := by decide +kernel
theorem dX7_copy_26 : decode cX7_copy 26 = .ok (.ireturn, 1) := by decide +kernel
theorem dX7_copy_27 : decode cX7_copy 27 = .ok (.aload_n 0, 1) := by decide +kernel
theorem dX7_copy_28 : decode cX7_copy 28 = .ok (.getfield 7, 3) := by decide +kernel
theorem dX7_copy_31 : decode cX7_copy 31 = .ok (.iload_n 1, 1) := by decide +kernel
theorem dX7_copy_32 : decode cX7_copy 32 = .ok (.iaload, 1) := by decide +kernel
theorem dX7_copy_33 : decode cX7_copy 33 = .ok (.ifCond .lt 12, 3) := by decide +kernel
theorem dX7_copy_36 : decode cX7_copy 36 = .ok (.aload_n 0, 1) := by decide +kernel
theorem dX7_copy_37 : decode cX7_copy 37 = .ok (.getfield 7, 3) := by decide +kernel
theorem dX7_copy_40 : decode cX7_copy 40 = .ok (.iload_n 3, 1) := by decide +kernel
theorem dX7_copy_41 : decode cX7_copy 41 = .ok (.iaload, 1) := by decide +kernel
theorem dX7_copy_42 : decode cX7_copy 42 = .ok (.ifCond .ge 9, 3) := by decide +kernel
theorem dX7_copy_45 : decode cX7_copy 45 = .ok (.aload_n 0, 1) := by decide +kernel
theorem dX7_copy_46 : decode cX7_copy 46 = .ok (.iconst 1, 1) := by decide +kernel
theorem dX7_copy_47 : decode cX7_copy 47 = .ok (.invokevirtual 76, 3) := by decide +kernel
theorem dX7_copy_50 : decode cX7_copy 50 = .ok (.ireturn, 1) := by decide +kernel
theorem dX7_copy_51 : decode cX7_copy 51 = .ok (.iload_n 2, 1) := by decide +kernel
theorem dX7_copy_52 : decode cX7_copy 52 = .ok (.ifCond .lt 43, 3) := by decide +kernel
theorem dX7_copy_55 : decode cX7_copy 55 = .ok (.iload 4, 2) := by decide +kernel
theorem dX7_copy_57 : decode cX7_copy 57 = .ok (.ifCond .lt 38, 3) := by decide +kernel
theorem dX7_copy_60 : decode cX7_copy 60 = .ok (.iload_n 2, 1) := by decide +kernel
theorem dX7_copy_61 : decode cX7_copy 61 = .ok (.i2l, 1) := by decide +kernel
theorem dX7_copy_62 : decode cX7_copy 62 = .ok (.iload 5, 2) := by decide +kernel
theorem dX7_copy_64 : decode cX7_copy 64 = .ok (.i2l, 1) := by decide +kernel
theorem dX7_copy_65 : decode cX7_copy 65 = .ok (.ladd, 1) := by decide +kernel
theorem dX7_copy_66 : decode cX7_copy 66 = .ok (.aload_n 0, 1) := by decide +kernel
theorem dX7_copy_67 : decode cX7_copy 67 = .ok (.getfield 7, 3) := by decide +kernel
theorem dX7_copy_70 : decode cX7_copy 70 = .ok (.iload_n 1, 1) := by decide +kernel
theorem dX7_copy_71 : decode cX7_copy 71 = .ok (.iaload, 1) := by decide +kernel
theorem dX7_copy_72 : decode cX7_copy 72 = .ok (.i2l, 1) := by decide +kernel
theorem dX7_copy_73 : decode cX7_copy 73 = .ok (.lcmp, 1) := by decide +kernel
theorem dX7_copy_74 : decode cX7_copy 74 = .ok (.ifCond .gt 21, 3) := by decide +kernel
theorem dX7_copy_77 : decode cX7_copy 77 = .ok (.iload 4, 2) := by decide +kernel
theorem dX7_copy_79 : decode cX7_copy 79 = .ok (.i2l, 1) := by decide +kernel
theorem dX7_copy_80 : decode cX7_copy 80 = .ok (.iload 5, 2) := by decide +kernel
theorem dX7_copy_82 : decode cX7_copy 82 = .ok (.i2l, 1) := by decide +kernel
theorem dX7_copy_83 : decode cX7_copy 83 = .ok (.ladd, 1) := by decide +kernel
theorem dX7_copy_84 : decode cX7_copy 84 = .ok (.aload_n 0, 1) := by decide +kernel
theorem dX7_copy_85 : decode cX7_copy 85 = .ok (.getfield 7, 3) := by decide +kernel
theorem dX7_copy_88 : decode cX7_copy 88 = .ok (.iload_n 3, 1) := by decide +kernel
theorem dX7_copy_89 : decode cX7_copy 89 = .ok (.iaload, 1) := by decide +kernel
theorem dX7_copy_90 : decode cX7_copy 90 = .ok (.i2l, 1) := by decide +kernel
theorem dX7_copy_91 : decode cX7_copy 91 = .ok (.lcmp, 1) := by decide +kernel
theorem dX7_copy_92 : decode cX7_copy 92 = .ok (.ifCond .le 9, 3) := by decide +kernel
theorem dX7_copy_95 : decode cX7_copy 95 = .ok (.aload_n 0, 1) := by decide +kernel
theorem dX7_copy_96 : decode cX7_copy 96 = .ok (.iconst 2, 1) := by decide +kernel
theorem dX7_copy_97 : decode cX7_copy 97 = .ok (.invokevirtual 76, 3) := by decide +kernel
theorem dX7_copy_100 : decode cX7_copy 100 = .ok (.ireturn, 1) := by decide +kernel
theorem dX7_copy_101 : decode cX7_copy 101 = .ok (.iconst 0, 1) := by decide +kernel
theorem dX7_copy_102 : decode cX7_copy 102 = .ok (.istore 6, 2) := by decide +kernel
theorem dX7_copy_104 : decode cX7_copy 104 = .ok (.iload 6, 2) := by decide +kernel
theorem dX7_copy_106 : decode cX7_copy 106 = .ok (.iload 5, 2) := by decide +kernel
theorem dX7_copy_108 : decode cX7_copy 108 = .ok (.if_icmp .ge 58, 3) := by decide +kernel
theorem dX7_copy_111 : decode cX7_copy 111 = .ok (.iload 4, 2) := by decide +kernel
theorem dX7_copy_113 : decode cX7_copy 113 = .ok (.iload_n 2, 1) := by decide +kernel
theorem dX7_copy_114 : decode cX7_copy 114 = .ok (.if_icmp .le 13, 3) := by decide +kernel
theorem dX7_copy_117 : decode cX7_copy 117 = .ok (.iload 5, 2) := by decide +kernel
theorem dX7_copy_119 : decode cX7_copy 119 = .ok (.iconst 1, 1) := by decide +kernel
theorem dX7_copy_120 : decode cX7_copy 120 = .ok (.isub, 1) := by decide +kernel
theorem dX7_copy_121 : decode cX7_copy 121 = .ok (.iload 6, 2) := by decide +kernel
theorem dX7_copy_123 : decode cX7_copy 123 = .ok (.isub, 1) := by decide +kernel
theorem dX7_copy_124 : decode cX7_copy 124 = .ok (.goto 5, 3) := by decide +kernel
theorem dX7_copy_127 : decode cX7_copy 127 = .ok (.iload 6, 2) := by decide +kernel
theorem dX7_copy_129 : decode cX7_copy 129 = .ok (.istore 7, 2) := by decide +kernel
theorem dX7_copy_131 : decode cX7_copy 131 = .ok (.aload_n 0, 1) := by decide +kernel
theorem dX7_copy_132 : decode cX7_copy 132 = .ok (.getfield 13, 3) := by decide +kernel
theorem dX7_copy_135 : decode cX7_copy 135 = .ok (.bipush 40, 2) := by decide +kernel
theorem dX7_copy_137 : decode cX7_copy 137 = .ok (.iload_n 3, 1) := by decide +kernel
theorem dX7_copy_138 : decode cX7_copy 138 = .ok (.imul, 1) := by decide +kernel
theorem dX7_copy_139 : decode cX7_copy 139 = .ok (.iload 4, 2) := by decide +kernel
theorem dX7_copy_141 : decode cX7_copy 141 = .ok (.iadd, 1) := by decide +kernel
theorem dX7_copy_142 : decode cX7_copy 142 = .ok (.iload 7, 2) := by decide +kernel
theorem dX7_copy_144 : decode cX7_copy 144 = .ok (.iadd, 1) := by decide +kernel
theorem dX7_copy_145 : decode cX7_copy 145 = .ok (.aload_n 0, 1) := by decide +kernel
theorem dX7_copy_146 : decode cX7_copy 146 = .ok (.getfield 13, 3) := by decide +kernel
theorem dX7_copy_149 : decode cX7_copy 149 = .ok (.bipush 40, 2) := by decide +kernel
theorem dX7_copy_151 : decode cX7_copy 151 = .ok (.iload_n 1, 1) := by decide +kernel
theorem dX7_copy_152 : decode cX7_copy 152 = .ok (.imul, 1) := by decide +kernel
theorem dX7_copy_153 : decode cX7_copy 153 = .ok (.iload_n 2, 1) := by decide +kernel
theorem dX7_copy_154 : decode cX7_copy 154 = .ok (.iadd, 1) := by decide +kernel
theorem dX7_copy_155 : decode cX7_copy 155 = .ok (.iload 7, 2) := by decide +kernel
theorem dX7_copy_157 : decode cX7_copy 157 = .ok (.iadd, 1) := by decide +kernel
theorem dX7_copy_158 : decode cX7_copy 158 = .ok (.iaload, 1) := by decide +kernel
theorem dX7_copy_159 : decode cX7_copy 159 = .ok (.iastore, 1) := by decide +kernel
theorem dX7_copy_160 : decode cX7_copy 160 = .ok (.iinc 6 1, 3) := by decide +kernel
theorem dX7_copy_163 : decode cX7_copy 163 = .ok (.goto (-59), 3) := by decide +kernel
theorem dX7_copy_166 : decode cX7_copy 166 = .ok (.iconst 1, 1) := by decide +kernel
theorem dX7_copy_167 : decode cX7_copy 167 = .ok (.ireturn, 1) := by decide +kernel
def F_X7_copy_L104 (a0 : Nat) (a1 : Int32) (a2 : Int32) (a3 : Int32) (a4 : Int32) (a5 : Int32) (K166 : aSt → Option (Int32 × aSt)) : Nat → Int32 → aSt → Option (Int32 × aSt)
  | 0, _, _ => none
  | fu + 1, l104_6, l104S =>
    if a5 ≤ l104_6 then (K166 l104S) else
    jn (fun (j129s0 : Int32) => (rfd (l104S.2.2 a0 1) 7 fun k132 =>
    grd (inb ((((40 : Int32) * a1) + a2) + j129s0) (SH k132).2) <|
    grd (inb ((((40 : Int32) * a3) + a4) + j129s0) (SH k132).2) <|
    nm (stI l104S k132 ((((40 : Int32) * a3) + a4) + j129s0).toNatClampNeg (l104S.1 k132 ((((40 : Int32) * a1) + a2) + j129s0).toNatClampNeg)) fun S159 =>
    F_X7_copy_L104 a0 a1 a2 a3 a4 a5 K166 fu (l104_6 + (1 : Int32)) S159 : Option (Int32 × aSt))) fun K129 =>
    if a4 ≤ a2 then (K129 l104_6) else
    K129 ((a5 - (1 : Int32)) - l104_6)
def F_X7_copy (n : Nat) (S : aSt) (a0 : Nat) (a1 : Int32) (a2 : Int32) (a3 : Int32) (a4 : Int32) (a5 : Int32) : Option (Int32 × aSt) :=
(F_X7_isRow n S a1).bind fun r1 =>
if r1 = 0 then (some ((-1 : Int32), S)) else
(F_X7_isRow n S a3).bind fun r8 =>
if r8 = 0 then (some ((-1 : Int32), S)) else
if 0 ≤ a5 then (rfd (S.2.2 a0 0) 7 fun k28 =>
grd (inb a1 (SH k28).2) <|
jn (fun (j45S : aSt) => (bn2 (F_X7_found n j45S a0 (1 : Int32)) fun r47 S47 =>
some (r47, S47) : Option (Int32 × aSt))) fun K45 =>
if (S.1 k28 a1.toNatClampNeg) < 0 then (K45 S) else
grd (inb a3 (SH k28).2) <|
if 0 ≤ (S.1 k28 a3.toNatClampNeg) then (jn (fun (j95S : aSt) => (bn2 (F_X7_found n j95S a0 (2 : Int32)) fun r97 S97 =>
some (r97, S97) : Option (Int32 × aSt))) fun K95 =>
if a2 < 0 then (K95 S) else
if a4 < 0 then (K95 S) else
grd (inb a1 (SH k28).2) <|
if 0 < (lg_cmp (a2.toInt64 + a5.toInt64) (S.1 k28 a1.toNatClampNeg).toInt64) then (K95 S) else
grd (inb a3 (SH k28).2) <|
if (lg_cmp (a4.toInt64 + a5.toInt64) (S.1 k28 a3.toNatClampNeg).toInt64) ≤ 0 then (jn (fun (x166S : aSt) => (some ((1 : Int32), x166S) : Option (Int32 × aSt))) fun K166 =>
F_X7_copy_L104 a0 a1 a2 a3 a4 a5 K166 n (0 : Int32) S) else
K95 S) else
K45 S) else
bn2 (F_X7_found n S a0 (5 : Int32)) fun r23 S23 =>
some (r23, S23)
set_option maxHeartbeats 4000000 in
set_option maxRecDepth 100000 in
theorem C_X7_copy (G : aG) (l : Launch) (n : Nat) (S : aSt) (a0 : Nat) (a1 : Int32) (a2 : Int32) (a3 : Int32) (a4 : Int32) (a5 : Int32) (r : Int32) (Sr : aSt) (ha0 : isT a0 6 = true) (hf : F_X7_copy n S a0 a1 a2 a3 a4 a5 = some (r, Sr)) : Ctr G l yX7_copy mX7_copy (rmM 3) 97 97 S [.ref a0, .int a1, .int a2, .int a3, .int a4, .int a5] (some (.int r)) Sr := by
  refine Ctr.of (by decide) rfl rfl (Nat.le_of_ble_eq_true rfl) [(0, .ref a0), (1, .int a1), (2, .int a2), (3, .int a3), (4, .int a4), (5, .int a5)] rfl ?_
  unfold F_X7_copy at hf
  refine Go.iload_n 1 1 rfl dX7_copy_0 rfl ?_
  obtain ⟨r1, er1, hf⟩ := f_bnd hf
  refine Go.cS 4 [.int a1] [] (C_X7_isRow G l n S a1 r1  er1) rfl dX7_copy_1 cx_X7_72 (by decide) (by decide) rfl (Nat.le_of_ble_eq_true rfl) ?_
  refine Go.if_eq 14 7 rfl dX7_copy_4 rfl (fun hc => ?_) (fun hc => ?_)
  · replace hf := f_if hf hc
    refine Go.iconst (-1 : Int32) 15 rfl dX7_copy_14 ci_m1 ?_
    exact Go.irS rfl dX7_copy_15 hf
  · replace hf := f_el hf hc
    refine Go.iload_n 3 8 rfl dX7_copy_7 rfl ?_
    obtain ⟨r8, er8, hf⟩ := f_bnd hf
    refine Go.cS 11 [.int a3] [] (C_X7_isRow G l n S a3 r8  er8) rfl dX7_copy_8 cx_X7_72 (by decide) (by decide) rfl (Nat.le_of_ble_eq_true rfl) ?_
    refine Go.if_ne 16 14 rfl dX7_copy_11 rfl (fun hc => ?_) (fun hc => ?_)
    · replace hf := f_el hf hc
      refine Go.iload 5 18 rfl dX7_copy_16 rfl ?_
      refine Go.if_ge 27 21 rfl dX7_copy_18 rfl (fun hc => ?_) (fun hc => ?_)
      · replace hf := f_if hf hc
        refine Go.aload_n 0 28 rfl dX7_copy_27 rfl ?_
        obtain ⟨k28, qk28, hk28, hf⟩ := f_rfd hf
        refine Go.getR 31 rfl dX7_copy_28 fl_X7_7 rfl (isT_lt ha0) (isT_sh ha0) qk28 ?_
        refine Go.iload_n 1 32 rfl dX7_copy_31 rfl ?_
        obtain ⟨g32, hf⟩ := f_grd hf
        refine Go.iald 33 rfl dX7_copy_32 (isT_lt hk28) (isT_sh hk28) g32 ?_
        obtain ⟨K45, eK45, hf⟩ := f_jn hf
        have J45 : ∀ (j45S : aSt), K45 j45S = some (r, Sr) → GoM G l 3 (TmR G (some (.int r)) 97 Sr 0 0) mX7_copy 45 [(0, .ref a0)] [] j45S := by
          intro j45S hf
          rw [eK45] at hf
          refine Go.aload_n 0 46 rfl dX7_copy_45 rfl ?_
          refine Go.iconst (1 : Int32) 47 rfl dX7_copy_46 ci_1 ?_
          obtain ⟨r47, S47, er47, hf⟩ := f_bn2 hf
          refine Go.cV 50 [.int (1 : Int32)] [] (C_X7_found G l n j45S a0 (1 : Int32) r47 S47 ha0 er47) rfl dX7_copy_47 cv_X7_76 ha0 (by decide) (by decide) rfl (Nat.le_of_ble_eq_true rfl) ?_
          exact Go.irS rfl dX7_copy_50 hf
        clear eK45
        refine Go.if_lt 45 36 rfl dX7_copy_33 rfl (fun hc => ?_) (fun hc => ?_)
        · replace hf := f_if hf hc
          exact Go.sub [0] [(0, .ref a0)] rfl (J45 S hf)
        · replace hf := f_el hf hc
          refine Go.aload_n 0 37 rfl dX7_copy_36 rfl ?_
          refine Go.getR 40 rfl dX7_copy_37 fl_X7_7 rfl (isT_lt ha0) (isT_sh ha0) qk28 ?_
          refine Go.iload_n 3 41 rfl dX7_copy_40 rfl ?_
          obtain ⟨g41, hf⟩ := f_grd hf
          refine Go.iald 42 rfl dX7_copy_41 (isT_lt hk28) (isT_sh hk28) g41 ?_
          refine Go.if_ge 51 45 rfl dX7_copy_42 rfl (fun hc => ?_) (fun hc => ?_)
          · replace hf := f_if hf hc
            refine Go.iload_n 2 52 rfl dX7_copy_51 rfl ?_
            obtain ⟨K95, eK95, hf⟩ := f_jn hf
            have J95 : ∀ (j95S : aSt), K95 j95S = some (r, Sr) → GoM G l 3 (TmR G (some (.int r)) 97 Sr 0 0) mX7_copy 95 [(0, .ref a0)] [] j95S := by
              intro j95S hf
              rw [eK95] at hf
              refine Go.aload_n 0 96 rfl dX7_copy_95 rfl ?_
              refine Go.iconst (2 : Int32) 97 rfl dX7_copy_96 ci_2 ?_
              obtain ⟨r97, S97, er97, hf⟩ := f_bn2 hf
              refine Go.cV 100 [.int (2 : Int32)] [] (C_X7_found G l n j95S a0 (2 : Int32) r97 S97 ha0 er97) rfl dX7_copy_97 cv_X7_76 ha0 (by decide) (by decide) rfl (Nat.le_of_ble_eq_true rfl) ?_
              exact Go.irS rfl dX7_copy_100 hf
            clear eK95
            refine Go.if_lt 95 55 rfl dX7_copy_52 rfl (fun hc => ?_) (fun hc => ?_)
            · replace hf := f_if hf hc
              exact Go.sub [0] [(0, .ref a0)] rfl (J95 S hf)
            · replace hf := f_el hf hc
              refine Go.iload 4 57 rfl dX7_copy_55 rfl ?_
              refine Go.if_lt 95 60 rfl dX7_copy_57 rfl (fun hc => ?_) (fun hc => ?_)
              · replace hf := f_if hf hc
                exact Go.sub [0] [(0, .ref a0)] rfl (J95 S hf)
              · replace hf := f_el hf hc
                refine Go.iload_n 2 61 rfl dX7_copy_60 rfl ?_
                refine Go.i2l 62 rfl dX7_copy_61 ?_
                refine Go.iload 5 64 rfl dX7_copy_62 rfl ?_
                refine Go.i2l 65 rfl dX7_copy_64 ?_
                refine Go.ladd 66 rfl dX7_copy_65 ?_
                refine Go.aload_n 0 67 rfl dX7_copy_66 rfl ?_
                refine Go.getR 70 rfl dX7_copy_67 fl_X7_7 rfl (isT_lt ha0) (isT_sh ha0) qk28 ?_
                refine Go.iload_n 1 71 rfl dX7_copy_70 rfl ?_
                obtain ⟨g71, hf⟩ := f_grd hf
                refine Go.iald 72 rfl dX7_copy_71 (isT_lt hk28) (isT_sh hk28) g71 ?_
                refine Go.i2l 73 rfl dX7_copy_72 ?_
                refine Go.lcmp 74 rfl dX7_copy_73 ?_
                refine Go.if_gt 95 77 rfl dX7_copy_74 rfl (fun hc => ?_) (fun hc => ?_)
                · replace hf := f_if hf hc
                  exact Go.sub [0] [(0, .ref a0)] rfl (J95 S hf)
                · replace hf := f_el hf hc
                  refine Go.iload 4 79 rfl dX7_copy_77 rfl ?_
                  refine Go.i2l 80 rfl dX7_copy_79 ?_
                  refine Go.iload 5 82 rfl dX7_copy_80 rfl ?_
                  refine Go.i2l 83 rfl dX7_copy_82 ?_
                  refine Go.ladd 84 rfl dX7_copy_83 ?_
                  refine Go.aload_n 0 85 rfl dX7_copy_84 rfl ?_
                  refine Go.getR 88 rfl dX7_copy_85 fl_X7_7 rfl (isT_lt ha0) (isT_sh ha0) qk28 ?_
                  refine Go.iload_n 3 89 rfl dX7_copy_88 rfl ?_
                  obtain ⟨g89, hf⟩ := f_grd hf
                  refine Go.iald 90 rfl dX7_copy_89 (isT_lt hk28) (isT_sh hk28) g89 ?_
                  refine Go.i2l 91 rfl dX7_copy_90 ?_
                  refine Go.lcmp 92 rfl dX7_copy_91 ?_
                  refine Go.if_le 101 95 rfl dX7_copy_92 rfl (fun hc => ?_) (fun hc => ?_)
                  · replace hf := f_if hf hc
                    refine Go.iconst (0 : Int32) 102 rfl dX7_copy_101 ci_0 ?_
                    refine Go.istore 104 [(6, .int (0 : Int32)), (0, .ref a0), (1, .int a1), (2, .int a2), (3, .int a3), (4, .int a4), (5, .int a5)] rfl dX7_copy_102 (by decide) rfl ?_
                    obtain ⟨K166, eK166, hf⟩ := f_jn hf
                    have J166 : ∀ (x166S : aSt), K166 x166S = some (r, Sr) → GoM G l 3 (TmR G (some (.int r)) 97 Sr 0 0) mX7_copy 166 [] [] x166S := by
                      intro x166S hf
                      rw [eK166] at hf
                      refine Go.iconst (1 : Int32) 167 rfl dX7_copy_166 ci_1 ?_
                      exact Go.irS rfl dX7_copy_167 hf
                    clear eK166
                    have L104 : ∀ (fu : Nat) (l104_6 : Int32) (l104S : aSt), F_X7_copy_L104 a0 a1 a2 a3 a4 a5 K166 fu l104_6 l104S = some (r, Sr) → GoM G l 3 (TmR G (some (.int r)) 97 Sr 0 0) mX7_copy 104 [(0, .ref a0), (1, .int a1), (2, .int a2), (3, .int a3), (4, .int a4), (5, .int a5), (6, .int l104_6)] [] l104S := by
                      intro fu
                      induction fu with
                      | zero => intro l104_6 l104S hf; rw [F_X7_copy_L104] at hf; cases hf
                      | succ fu ih =>
                        intro l104_6 l104S hf
                        rw [F_X7_copy_L104] at hf
                        refine Go.iload 6 106 rfl dX7_copy_104 rfl ?_
                        refine Go.iload 5 108 rfl dX7_copy_106 rfl ?_
                        refine Go.icmp_ge 166 111 rfl dX7_copy_108 rfl (fun hc => ?_) (fun hc => ?_)
                        · replace hf := f_if hf hc
                          exact Go.sub [] [] rfl (J166 l104S hf)
                        · replace hf := f_el hf hc
                          refine Go.iload 4 113 rfl dX7_copy_111 rfl ?_
                          refine Go.iload_n 2 114 rfl dX7_copy_113 rfl ?_
                          obtain ⟨K129, eK129, hf⟩ := f_jn hf
                          have J129 : ∀ (j129s0 : Int32), K129 j129s0 = some (r, Sr) → GoM G l 3 (TmR G (some (.int r)) 97 Sr 0 0) mX7_copy 129 [(0, .ref a0), (1, .int a1), (2, .int a2), (3, .int a3), (4, .int a4), (5, .int a5), (6, .int l104_6)] [.int j129s0] l104S := by
                            intro j129s0 hf
                            rw [eK129] at hf
                            refine Go.istore 131 [(7, .int j129s0), (0, .ref a0), (1, .int a1), (2, .int a2), (3, .int a3), (4, .int a4), (5, .int a5), (6, .int l104_6)] rfl dX7_copy_129 (by decide) rfl ?_
                            refine Go.aload_n 1 132 rfl dX7_copy_131 rfl ?_
                            obtain ⟨k132, qk132, hk132, hf⟩ := f_rfd hf
                            refine Go.getR 135 rfl dX7_copy_132 fl_X7_13 rfl (isT_lt ha0) (isT_sh ha0) qk132 ?_
                            refine Go.bipush (40 : Int32) 137 rfl dX7_copy_135 cb_40 ?_
                            refine Go.iload_n 4 138 rfl dX7_copy_137 rfl ?_
                            refine Go.imul 139 rfl dX7_copy_138 ?_
                            refine Go.iload 5 141 rfl dX7_copy_139 rfl ?_
                            refine Go.iadd 142 rfl dX7_copy_141 ?_
                            refine Go.iload 0 144 rfl dX7_copy_142 rfl ?_
                            refine Go.iadd 145 rfl dX7_copy_144 ?_
                            refine Go.aload_n 1 146 rfl dX7_copy_145 rfl ?_
                            refine Go.getR 149 rfl dX7_copy_146 fl_X7_13 rfl (isT_lt ha0) (isT_sh ha0) qk132 ?_
                            refine Go.bipush (40 : Int32) 151 rfl dX7_copy_149 cb_40 ?_
                            refine Go.iload_n 2 152 rfl dX7_copy_151 rfl ?_
                            refine Go.imul 153 rfl dX7_copy_152 ?_
                            refine Go.iload_n 3 154 rfl dX7_copy_153 rfl ?_
                            refine Go.iadd 155 rfl dX7_copy_154 ?_
                            refine Go.iload 0 157 rfl dX7_copy_155 rfl ?_
                            refine Go.iadd 158 rfl dX7_copy_157 ?_
                            obtain ⟨g158, hf⟩ := f_grd hf
                            refine Go.iald 159 rfl dX7_copy_158 (isT_lt hk132) (isT_sh hk132) g158 ?_
                            obtain ⟨g159, hf⟩ := f_grd hf
                            obtain ⟨S159, eS159, hf⟩ := f_nm hf
                            refine Go.iast 160 rfl dX7_copy_159 (isT_lt hk132) (isT_sh hk132) g159 (Go.stt S159 eS159 ?_)
                            refine Go.inc 7 163 (1 : Int32) [(6, .int (l104_6 + (1 : Int32))), (7, .int j129s0), (0, .ref a0), (1, .int a1), (2, .int a2), (3, .int a3), (4, .int a4), (5, .int a5)] rfl dX7_copy_160 rfl ci_1 (by decide) rfl ?_
                            refine Go.goto 104 dX7_copy_163 rfl ?_
                            exact Go.sub [2, 3, 4, 5, 6, 7, 0] [(0, .ref a0), (1, .int a1), (2, .int a2), (3, .int a3), (4, .int a4), (5, .int a5), (6, .int (l104_6 + (1 : Int32)))] rfl (ih (l104_6 + (1 : Int32)) S159 hf)
                          clear eK129
                          refine Go.icmp_le 127 117 rfl dX7_copy_114 rfl (fun hc => ?_) (fun hc => ?_)
                          · replace hf := f_if hf hc
                            refine Go.iload 6 129 rfl dX7_copy_127 rfl ?_
                            exact J129 l104_6 hf
                          · replace hf := f_el hf hc
                            refine Go.iload 5 119 rfl dX7_copy_117 rfl ?_
                            refine Go.iconst (1 : Int32) 120 rfl dX7_copy_119 ci_1 ?_
                            refine Go.isub 121 rfl dX7_copy_120 ?_
                            refine Go.iload 6 123 rfl dX7_copy_121 rfl ?_
                            refine Go.isub 124 rfl dX7_copy_123 ?_
                            refine Go.goto 129 dX7_copy_124 rfl ?_
                            exact J129 ((a5 - (1 : Int32)) - l104_6) hf
                    exact Go.sub [1, 2, 3, 4, 5, 6, 0] [(0, .ref a0), (1, .int a1), (2, .int a2), (3, .int a3), (4, .int a4), (5, .int a5), (6, .int (0 : Int32))] rfl (L104 n (0 : Int32) S hf)
                  · replace hf := f_el hf hc
                    exact Go.sub [0] [(0, .ref a0)] rfl (J95 S hf)
          · replace hf := f_el hf hc
            exact Go.sub [0] [(0, .ref a0)] rfl (J45 S hf)
      · replace hf := f_el hf hc
        refine Go.aload_n 0 22 rfl dX7_copy_21 rfl ?_
        refine Go.iconst (5 : Int32) 23 rfl dX7_copy_22 ci_5 ?_
        obtain ⟨r23, S23, er23, hf⟩ := f_bn2 hf
        refine Go.cV 26 [.int (5 : Int32)] [] (C_X7_found G l n S a0 (5 : Int32) r23 S23 ha0 er23) rfl dX7_copy_23 cv_X7_76 ha0 (by decide) (by decide) rfl (Nat.le_of_ble_eq_true rfl) ?_
        exact Go.irS rfl dX7_copy_26 hf
    · replace hf := f_if hf hc
      refine Go.iconst (-1 : Int32) 15 rfl dX7_copy_14 ci_m1 ?_
      exact Go.irS rfl dX7_copy_15 hf
theorem dX7_mean_0 : decode cX7_mean 0 = .ok (.iload_n 1, 1) := by decide +kernel
theorem dX7_mean_1 : decode cX7_mean 1 = .ok (.invokestatic 72, 3) := by decide +kernel
theorem dX7_mean_4 : decode cX7_mean 4 = .ok (.ifCond .ne 5, 3) := by decide +kernel
theorem dX7_mean_7 : decode cX7_mean 7 = .ok (.iconst (-1), 1) := by decide +kernel
theorem dX7_mean_8 : decode cX7_mean 8 = .ok (.ireturn, 1) := by decide +kernel
theorem dX7_mean_9 : decode cX7_mean 9 = .ok (.aload_n 0, 1) := by decide +kernel
theorem dX7_mean_10 : decode cX7_mean 10 = .ok (.getfield 7, 3) := by decide +kernel
theorem dX7_mean_13 : decode cX7_mean 13 = .ok (.iload_n 1, 1) := by decide +kernel
theorem dX7_mean_14 : decode cX7_mean 14 = .ok (.iaload, 1) := by decide +kernel
theorem dX7_mean_15 : decode cX7_mean 15 = .ok (.ifCond .ge 9, 3) := by decide +kernel
theorem dX7_mean_18 : decode cX7_mean 18 = .ok (.aload_n 0, 1) := by decide +kernel
theorem dX7_mean_19 : decode cX7_mean 19 = .ok (.iconst 1, 1) := by decide +kernel
theorem dX7_mean_20 : decode cX7_mean 20 = .ok (.invokevirtual 76, 3) := by decide +kernel
theorem dX7_mean_23 : decode cX7_mean 23 = .ok (.ireturn, 1) := by decide +kernel
theorem dX7_mean_24 : decode cX7_mean 24 = .ok (.aload_n 0, 1) := by decide +kernel
theorem dX7_mean_25 : decode cX7_mean 25 = .ok (.getfield 7, 3) := by decide +kernel
theorem dX7_mean_28 : decode cX7_mean 28 = .ok (.iload_n 1, 1) := by decide +kernel
theorem dX7_mean_29 : decode cX7_mean 29 = .ok (.iaload, 1) := by decide +kernel
theorem dX7_mean_30 : decode cX7_mean 30 = .ok (.ifCond .ne 9, 3) := by decide +kernel
theorem dX7_mean_33 : decode cX7_mean 33 = .ok (.aload_n 0, 1) := by decide +kernel
theorem dX7_mean_34 : decode cX7_mean 34 = .ok (.iconst 4, 1) := by decide +kernel
theorem dX7_mean_35 : decode cX7_mean 35 = .ok (.invokevirtual 76, 3) := by decide +kernel
theorem dX7_mean_38 : decode cX7_mean 38 = .ok (.ireturn, 1) := by decide +kernel
theorem dX7_mean_39 : decode cX7_mean 39 = .ok (.lconst 0, 1) := by decide +kernel
theorem dX7_mean_40 : decode cX7_mean 40 = .ok (.lstore_n 2, 1) := by decide +kernel
theorem dX7_mean_41 : decode cX7_mean 41 = .ok (.iconst 0, 1) := by decide +kernel
theorem dX7_mean_42 : decode cX7_mean 42 = .ok (.istore 4, 2) := by decide +kernel
theorem dX7_mean_44 : decode cX7_mean 44 = .ok (.iload 4, 2) := by decide +kernel
theorem dX7_mean_46 : decode cX7_mean 46 = .ok (.aload_n 0, 1) := by decide +kernel
theorem dX7_mean_47 : decode cX7_mean 47 = .ok (.getfield 7, 3) := by decide +kernel
theorem dX7_mean_50 : decode cX7_mean 50 = .ok (.iload_n 1, 1) := by decide +kernel
theorem dX7_mean_51 : decode cX7_mean 51 = .ok (.iaload, 1) := by decide +kernel
theorem dX7_mean_52 : decode cX7_mean 52 = .ok (.if_icmp .ge 25, 3) := by decide +kernel
theorem dX7_mean_55 : decode cX7_mean 55 = .ok (.lload_n 2, 1) := by decide +kernel
theorem dX7_mean_56 : decode cX7_mean 56 = .ok (.aload_n 0, 1) := by decide +kernel
theorem dX7_mean_57 : decode cX7_mean 57 = .ok (.getfield 13, 3) := by decide +kernel
theorem dX7_mean_60 : decode cX7_mean 60 = .ok (.bipush 40, 2) := by decide +kernel
theorem dX7_mean_62 : decode cX7_mean 62 = .ok (.iload_n 1, 1) := by decide +kernel
theorem dX7_mean_63 : decode cX7_mean 63 = .ok (.imul, 1) := by decide +kernel
theorem dX7_mean_64 : decode cX7_mean 64 = .ok (.iload 4, 2) := by decide +kernel
theorem dX7_mean_66 : decode cX7_mean 66 = .ok (.iadd, 1) := by decide +kernel
theorem dX7_mean_67 : decode cX7_mean 67 = .ok (.iaload, 1) := by decide +kernel
theorem dX7_mean_68 : decode cX7_mean 68 = .ok (.i2l, 1) := by decide +kernel
theorem dX7_mean_69 : decode cX7_mean 69 = .ok (.ladd, 1) := by decide +kernel
theorem dX7_mean_70 : decode cX7_mean 70 = .ok (.lstore_n 2, 1) := by decide +kernel
theorem dX7_mean_71 : decode cX7_mean 71 = .ok (.iinc 4 1, 3) := by decide +kernel
theorem dX7_mean_74 : decode cX7_mean 74 = .ok (.goto (-30), 3) := by decide +kernel
theorem dX7_mean_77 : decode cX7_mean 77 = .ok (.aload_n 0, 1) := by decide +kernel
theorem dX7_mean_78 : decode cX7_mean 78 = .ok (.lload_n 2, 1) := by decide +kernel
theorem dX7_mean_79 : decode cX7_mean 79 = .ok (.aload_n 0, 1) := by decide +kernel
theorem dX7_mean_80 : decode cX7_mean 80 = .ok (.getfield 7, 3) := by decide +kernel
theorem dX7_mean_83 : decode cX7_mean 83 = .ok (.iload_n 1, 1) := by decide +kernel
theorem dX7_mean_84 : decode cX7_mean 84 = .ok (.iaload, 1) := by decide +kernel
theorem dX7_mean_85 : decode cX7_mean 85 = .ok (.i2l, 1) := by decide +kernel
theorem dX7_mean_86 : decode cX7_mean 86 = .ok (.ldiv, 1) := by decide +kernel
theorem dX7_mean_87 : decode cX7_mean 87 = .ok (.l2i, 1) := by decide +kernel
theorem dX7_mean_88 : decode cX7_mean 88 = .ok (.invokevirtual 80, 3) := by decide +kernel
theorem dX7_mean_91 : decode cX7_mean 91 = .ok (.ireturn, 1) := by decide +kernel
def F_X7_mean_L44 (S : aSt) (a0 : Nat) (a1 : Int32) (k10 : Nat) (K77 : Int64 → Option (Int32 × aSt)) : Nat → Int64 → Int32 → Option (Int32 × aSt)
  | 0, _, _ => none
  | fu + 1, l44_2, l44_4 =>
    grd (inb a1 (SH k10).2) <|
    if (S.1 k10 a1.toNatClampNeg) ≤ l44_4 then (K77 l44_2) else
    rfd (S.2.2 a0 1) 7 fun k57 =>
    grd (inb (((40 : Int32) * a1) + l44_4) (SH k57).2) <|
    nm (l44_2 + (S.1 k57 (((40 : Int32) * a1) + l44_4).toNatClampNeg).toInt64) fun v70 =>
    F_X7_mean_L44 S a0 a1 k10 K77 fu v70 (l44_4 + (1 : Int32))
def F_X7_mean (n : Nat) (S : aSt) (a0 : Nat) (a1 : Int32) : Option (Int32 × aSt) :=
(F_X7_isRow n S a1).bind fun r1 =>
if r1 = 0 then (some ((-1 : Int32), S)) else
rfd (S.2.2 a0 0) 7 fun k10 =>
grd (inb a1 (SH k10).2) <|
if 0 ≤ (S.1 k10 a1.toNatClampNeg) then (grd (inb a1 (SH k10).2) <|
if (S.1 k10 a1.toNatClampNeg) = 0 then (bn2 (F_X7_found n S a0 (4 : Int32)) fun r35 S35 =>
some (r35, S35)) else
jn (fun (x77_2 : Int64) => (grd (inb a1 (SH k10).2) <|
grd (!decide ((S.1 k10 a1.toNatClampNeg).toInt64 = 0)) <|
bn2 (F_X7_tell n S a0 (x77_2 / (S.1 k10 a1.toNatClampNeg).toInt64).toInt32) fun r88 S88 =>
some (r88, S88) : Option (Int32 × aSt))) fun K77 =>
F_X7_mean_L44 S a0 a1 k10 K77 n (0 : Int64) (0 : Int32)) else
bn2 (F_X7_found n S a0 (1 : Int32)) fun r20 S20 =>
some (r20, S20)
set_option maxHeartbeats 4000000 in
set_option maxRecDepth 100000 in
theorem C_X7_mean (G : aG) (l : Launch) (n : Nat) (S : aSt) (a0 : Nat) (a1 : Int32) (r : Int32) (Sr : aSt) (ha0 : isT a0 6 = true) (hf : F_X7_mean n S a0 a1 = some (r, Sr)) : Ctr G l yX7_mean mX7_mean (rmM 3) 97 97 S [.ref a0, .int a1] (some (.int r)) Sr := by
  refine Ctr.of (by decide) rfl rfl (Nat.le_of_ble_eq_true rfl) [(0, .ref a0), (1, .int a1)] rfl ?_
  unfold F_X7_mean at hf
  refine Go.iload_n 1 1 rfl dX7_mean_0 rfl ?_
  obtain ⟨r1, er1, hf⟩ := f_bnd hf
  refine Go.cS 4 [.int a1] [] (C_X7_isRow G l n S a1 r1  er1) rfl dX7_mean_1 cx_X7_72 (by decide) (by decide) rfl (Nat.le_of_ble_eq_true rfl) ?_
  refine Go.if_ne 9 7 rfl dX7_mean_4 rfl (fun hc => ?_) (fun hc => ?_)
  · replace hf := f_el hf hc
    refine Go.aload_n 0 10 rfl dX7_mean_9 rfl ?_
    obtain ⟨k10, qk10, hk10, hf⟩ := f_rfd hf
    refine Go.getR 13 rfl dX7_mean_10 fl_X7_7 rfl (isT_lt ha0) (isT_sh ha0) qk10 ?_
    refine Go.iload_n 1 14 rfl dX7_mean_13 rfl ?_
    obtain ⟨g14, hf⟩ := f_grd hf
    refine Go.iald 15 rfl dX7_mean_14 (isT_lt hk10) (isT_sh hk10) g14 ?_
    refine Go.if_ge 24 18 rfl dX7_mean_15 rfl (fun hc => ?_) (fun hc => ?_)
    · replace hf := f_if hf hc
      refine Go.aload_n 0 25 rfl dX7_mean_24 rfl ?_
      refine Go.getR 28 rfl dX7_mean_25 fl_X7_7 rfl (isT_lt ha0) (isT_sh ha0) qk10 ?_
      refine Go.iload_n 1 29 rfl dX7_mean_28 rfl ?_
      obtain ⟨g29, hf⟩ := f_grd hf
      refine Go.iald 30 rfl dX7_mean_29 (isT_lt hk10) (isT_sh hk10) g29 ?_
      refine Go.if_ne 39 33 rfl dX7_mean_30 rfl (fun hc => ?_) (fun hc => ?_)
      · replace hf := f_el hf hc
        refine Go.lconst (0 : Int64) 40 rfl dX7_mean_39 cl_0 ?_
        refine Go.lstore_n 41 [(2, .long (0 : Int64)), (0, .ref a0), (1, .int a1)] rfl dX7_mean_40 (by decide) rfl ?_
        refine Go.iconst (0 : Int32) 42 rfl dX7_mean_41 ci_0 ?_
        refine Go.istore 44 [(4, .int (0 : Int32)), (2, .long (0 : Int64)), (0, .ref a0), (1, .int a1)] rfl dX7_mean_42 (by decide) rfl ?_
        obtain ⟨K77, eK77, hf⟩ := f_jn hf
        have J77 : ∀ (x77_2 : Int64), K77 x77_2 = some (r, Sr) → GoM G l 3 (TmR G (some (.int r)) 97 Sr 0 0) mX7_mean 77 [(0, .ref a0), (1, .int a1), (2, .long x77_2)] [] S := by
          intro x77_2 hf
          rw [eK77] at hf
          refine Go.aload_n 0 78 rfl dX7_mean_77 rfl ?_
          refine Go.lload_n 2 79 rfl dX7_mean_78 rfl ?_
          refine Go.aload_n 0 80 rfl dX7_mean_79 rfl ?_
          refine Go.getR 83 rfl dX7_mean_80 fl_X7_7 rfl (isT_lt ha0) (isT_sh ha0) qk10 ?_
          refine Go.iload_n 1 84 rfl dX7_mean_83 rfl ?_
          obtain ⟨g84, hf⟩ := f_grd hf
          refine Go.iald 85 rfl dX7_mean_84 (isT_lt hk10) (isT_sh hk10) g84 ?_
          refine Go.i2l 86 rfl dX7_mean_85 ?_
          obtain ⟨g86, hf⟩ := f_grd hf
          refine Go.ldiv 87 rfl dX7_mean_86 (by simpa using g86) ?_
          refine Go.l2i 88 rfl dX7_mean_87 ?_
          obtain ⟨r88, S88, er88, hf⟩ := f_bn2 hf
          refine Go.cV 91 [.int (x77_2 / (S.1 k10 a1.toNatClampNeg).toInt64).toInt32] [] (C_X7_tell G l n S a0 (x77_2 / (S.1 k10 a1.toNatClampNeg).toInt64).toInt32 r88 S88 ha0 er88) rfl dX7_mean_88 cv_X7_80 ha0 (by decide) (by decide) rfl (Nat.le_of_ble_eq_true rfl) ?_
          exact Go.irS rfl dX7_mean_91 hf
        clear eK77
        have L44 : ∀ (fu : Nat) (l44_2 : Int64) (l44_4 : Int32), F_X7_mean_L44 S a0 a1 k10 K77 fu l44_2 l44_4 = some (r, Sr) → GoM G l 3 (TmR G (some (.int r)) 97 Sr 0 0) mX7_mean 44 [(0, .ref a0), (1, .int a1), (2, .long l44_2), (4, .int l44_4)] [] S := by
          intro fu
          induction fu with
          | zero => intro l44_2 l44_4 hf; rw [F_X7_mean_L44] at hf; cases hf
          | succ fu ih =>
            intro l44_2 l44_4 hf
            rw [F_X7_mean_L44] at hf
            refine Go.iload 3 46 rfl dX7_mean_44 rfl ?_
            refine Go.aload_n 0 47 rfl dX7_mean_46 rfl ?_
            refine Go.getR 50 rfl dX7_mean_47 fl_X7_7 rfl (isT_lt ha0) (isT_sh ha0) qk10 ?_
            refine Go.iload_n 1 51 rfl dX7_mean_50 rfl ?_
            obtain ⟨g51, hf⟩ := f_grd hf
            refine Go.iald 52 rfl dX7_mean_51 (isT_lt hk10) (isT_sh hk10) g51 ?_
            refine Go.icmp_ge 77 55 rfl dX7_mean_52 rfl (fun hc => ?_) (fun hc => ?_)
            · replace hf := f_if hf hc
              exact Go.sub [0, 1, 2] [(0, .ref a0), (1, .int a1), (2, .long l44_2)] rfl (J77 l44_2 hf)
            · replace hf := f_el hf hc
              refine Go.lload_n 2 56 rfl dX7_mean_55 rfl ?_
              refine Go.aload_n 0 57 rfl dX7_mean_56 rfl ?_
              obtain ⟨k57, qk57, hk57, hf⟩ := f_rfd hf
              refine Go.getR 60 rfl dX7_mean_57 fl_X7_13 rfl (isT_lt ha0) (isT_sh ha0) qk57 ?_
              refine Go.bipush (40 : Int32) 62 rfl dX7_mean_60 cb_40 ?_
              refine Go.iload_n 1 63 rfl dX7_mean_62 rfl ?_
              refine Go.imul 64 rfl dX7_mean_63 ?_
              refine Go.iload 3 66 rfl dX7_mean_64 rfl ?_
              refine Go.iadd 67 rfl dX7_mean_66 ?_
              obtain ⟨g67, hf⟩ := f_grd hf
              refine Go.iald 68 rfl dX7_mean_67 (isT_lt hk57) (isT_sh hk57) g67 ?_
              refine Go.i2l 69 rfl dX7_mean_68 ?_
              refine Go.ladd 70 rfl dX7_mean_69 ?_
              obtain ⟨v70, ev70, hf⟩ := f_nm hf
              refine Go.topl v70 ev70 ?_
              refine Go.lstore_n 71 [(2, .long v70), (0, .ref a0), (1, .int a1), (4, .int l44_4)] rfl dX7_mean_70 (by decide) rfl ?_
              refine Go.inc 3 74 (1 : Int32) [(4, .int (l44_4 + (1 : Int32))), (2, .long v70), (0, .ref a0), (1, .int a1)] rfl dX7_mean_71 rfl ci_1 (by decide) rfl ?_
              refine Go.goto 44 dX7_mean_74 rfl ?_
              exact Go.sub [2, 3, 1, 0] [(0, .ref a0), (1, .int a1), (2, .long v70), (4, .int (l44_4 + (1 : Int32)))] rfl (ih v70 (l44_4 + (1 : Int32)) hf)
        exact Go.sub [2, 3, 1, 0] [(0, .ref a0), (1, .int a1), (2, .long (0 : Int64)), (4, .int (0 : Int32))] rfl (L44 n (0 : Int64) (0 : Int32) hf)
      · replace hf := f_if hf hc
        refine Go.aload_n 0 34 rfl dX7_mean_33 rfl ?_
        refine Go.iconst (4 : Int32) 35 rfl dX7_mean_34 ci_4 ?_
        obtain ⟨r35, S35, er35, hf⟩ := f_bn2 hf
        refine Go.cV 38 [.int (4 : Int32)] [] (C_X7_found G l n S a0 (4 : Int32) r35 S35 ha0 er35) rfl dX7_mean_35 cv_X7_76 ha0 (by decide) (by decide) rfl (Nat.le_of_ble_eq_true rfl) ?_
        exact Go.irS rfl dX7_mean_38 hf
    · replace hf := f_el hf hc
      refine Go.aload_n 0 19 rfl dX7_mean_18 rfl ?_
      refine Go.iconst (1 : Int32) 20 rfl dX7_mean_19 ci_1 ?_
      obtain ⟨r20, S20, er20, hf⟩ := f_bn2 hf
      refine Go.cV 23 [.int (1 : Int32)] [] (C_X7_found G l n S a0 (1 : Int32) r20 S20 ha0 er20) rfl dX7_mean_20 cv_X7_76 ha0 (by decide) (by decide) rfl (Nat.le_of_ble_eq_true rfl) ?_
      exact Go.irS rfl dX7_mean_23 hf
  · replace hf := f_if hf hc
    refine Go.iconst (-1 : Int32) 8 rfl dX7_mean_7 ci_m1 ?_
    exact Go.irS rfl dX7_mean_8 hf
theorem dX7_text_0 : decode cX7_text 0 = .ok (.iload_n 1, 1) := by decide +kernel
theorem dX7_text_1 : decode cX7_text 1 = .ok (.invokestatic 83, 3) := by decide +kernel
theorem dX7_text_4 : decode cX7_text 4 = .ok (.ifCond .eq 9, 3) := by decide +kernel
theorem dX7_text_7 : decode cX7_text 7 = .ok (.iload_n 2, 1) := by decide +kernel
theorem dX7_text_8 : decode cX7_text 8 = .ok (.bipush 80, 2) := by decide +kernel
theorem dX7_text_10 : decode cX7_text 10 = .ok (.if_icmp .le 5, 3) := by decide +kernel
theorem dX7_text_13 : decode cX7_text 13 = .ok (.iconst (-1), 1) := by decide +kernel
theorem dX7_text_14 : decode cX7_text 14 = .ok (.ireturn, 1) := by decide +kernel
theorem dX7_text_15 : decode cX7_text 15 = .ok (.iload_n 2, 1) := by decide +kernel
theorem dX7_text_16 : decode cX7_text 16 = .ok (.ifCond .ge 9, 3) := by decide +kernel
theorem dX7_text_19 : decode cX7_text 19 = .ok (.aload_n 0, 1) := by decide +kernel
theorem dX7_text_20 : decode cX7_text 20 = .ok (.iconst 5, 1) := by decide +kernel
theorem dX7_text_21 : decode cX7_text 21 = .ok (.invokevirtual 76, 3) := by decide +kernel
theorem dX7_text_24 : decode cX7_text 24 = .ok (.ireturn, 1) := by decide +kernel
theorem dX7_text_25 : decode cX7_text 25 = .ok (.aload_n 0, 1) := by decide +kernel
theorem dX7_text_26 : decode cX7_text 26 = .ok (.getfield 16, 3) := by decide +kernel
theorem dX7_text_29 : decode cX7_text 29 = .ok (.iload_n 1, 1) := by decide +kernel
theorem dX7_text_30 : decode cX7_text 30 = .ok (.iload_n 2, 1) := by decide +kernel
theorem dX7_text_31 : decode cX7_text 31 = .ok (.iastore, 1) := by decide +kernel
theorem dX7_text_32 : decode cX7_text 32 = .ok (.iconst 0, 1) := by decide +kernel
theorem dX7_text_33 : decode cX7_text 33 = .ok (.istore_n 3, 1) := by decide +kernel
theorem dX7_text_34 : decode cX7_text 34 = .ok (.iload_n 3, 1) := by decide +kernel
theorem dX7_text_35 : decode cX7_text 35 = .ok (.bipush 80, 2) := by decide +kernel
theorem dX7_text_37 : decode cX7_text 37 = .ok (.if_icmp .ge 22, 3) := by decide +kernel
theorem dX7_text_40 : decode cX7_text 40 = .ok (.aload_n 0, 1) := by decide +kernel
theorem dX7_text_41 : decode cX7_text 41 = .ok (.getfield 19, 3) := by decide +kernel
theorem dX7_text_44 : decode cX7_text 44 = .ok (.bipush 80, 2) := by decide +kernel
theorem dX7_text_46 : decode cX7_text 46 = .ok (.iload_n 1, 1) := by decide +kernel
theorem dX7_text_47 : decode cX7_text 47 = .ok (.imul, 1) := by decide +kernel
theorem dX7_text_48 : decode cX7_text 48 = .ok (.iload_n 3, 1) := by decide +kernel
theorem dX7_text_49 : decode cX7_text 49 = .ok (.iadd, 1) := by decide +kernel
theorem dX7_text_50 : decode cX7_text 50 = .ok (.bipush 32, 2) := by decide +kernel
theorem dX7_text_52 : decode cX7_text 52 = .ok (.iastore, 1) := by decide +kernel
theorem dX7_text_53 : decode cX7_text 53 = .ok (.iinc 3 1, 3) := by decide +kernel
theorem dX7_text_56 : decode cX7_text 56 = .ok (.goto (-22), 3) := by decide +kernel
theorem dX7_text_59 : decode cX7_text 59 = .ok (.iload_n 2, 1) := by decide +kernel
theorem dX7_text_60 : decode cX7_text 60 = .ok (.ireturn, 1) := by decide +kernel
def F_X7_text_L34 (a0 : Nat) (a1 : Int32) (K59 : aSt → Option (Int32 × aSt)) : Nat → Int32 → aSt → Option (Int32 × aSt)
  | 0, _, _ => none
  | fu + 1, l34_3, l34S =>
    if (80 : Int32) ≤ l34_3 then (K59 l34S) else
    rfd (l34S.2.2 a0 3) 7 fun k41 =>
    grd (inb (((80 : Int32) * a1) + l34_3) (SH k41).2) <|
    nm (stI l34S k41 (((80 : Int32) * a1) + l34_3).toNatClampNeg (32 : Int32)) fun S52 =>
    F_X7_text_L34 a0 a1 K59 fu (l34_3 + (1 : Int32)) S52
def F_X7_text (n : Nat) (S : aSt) (a0 : Nat) (a1 : Int32) (a2 : Int32) : Option (Int32 × aSt) :=
(F_X7_isText n S a1).bind fun r1 =>
if r1 = 0 then (some ((-1 : Int32), S)) else
if a2 ≤ (80 : Int32) then (if 0 ≤ a2 then (rfd (S.2.2 a0 2) 7 fun k26 =>
grd (inb a1 (SH k26).2) <|
nm (stI S k26 a1.toNatClampNeg a2) fun S31 =>
jn (fun (x59S : aSt) => (some (a2, x59S) : Option (Int32 × aSt))) fun K59 =>
F_X7_text_L34 a0 a1 K59 n (0 : Int32) S31) else
bn2 (F_X7_found n S a0 (5 : Int32)) fun r21 S21 =>
some (r21, S21)) else
some ((-1 : Int32), S)
set_option maxHeartbeats 4000000 in
set_option maxRecDepth 100000 in
theorem C_X7_text (G : aG) (l : Launch) (n : Nat) (S : aSt) (a0 : Nat) (a1 : Int32) (a2 : Int32) (r : Int32) (Sr : aSt) (ha0 : isT a0 6 = true) (hf : F_X7_text n S a0 a1 a2 = some (r, Sr)) : Ctr G l yX7_text mX7_text (rmM 3) 97 97 S [.ref a0, .int a1, .int a2] (some (.int r)) Sr := by
  refine Ctr.of (by decide) rfl rfl (Nat.le_of_ble_eq_true rfl) [(0, .ref a0), (1, .int a1), (2, .int a2)] rfl ?_
  unfold F_X7_text at hf
  refine Go.iload_n 1 1 rfl dX7_text_0 rfl ?_
  obtain ⟨r1, er1, hf⟩ := f_bnd hf
  refine Go.cS 4 [.int a1] [] (C_X7_isText G l n S a1 r1  er1) rfl dX7_text_1 cx_X7_83 (by decide) (by decide) rfl (Nat.le_of_ble_eq_true rfl) ?_
  refine Go.if_eq 13 7 rfl dX7_text_4 rfl (fun hc => ?_) (fun hc => ?_)
  · replace hf := f_if hf hc
    refine Go.iconst (-1 : Int32) 14 rfl dX7_text_13 ci_m1 ?_
    exact Go.irS rfl dX7_text_14 hf
  · replace hf := f_el hf hc
    refine Go.iload_n 2 8 rfl dX7_text_7 rfl ?_
    refine Go.bipush (80 : Int32) 10 rfl dX7_text_8 cb_80 ?_
    refine Go.icmp_le 15 13 rfl dX7_text_10 rfl (fun hc => ?_) (fun hc => ?_)
    · replace hf := f_if hf hc
      refine Go.iload_n 2 16 rfl dX7_text_15 rfl ?_
      refine Go.if_ge 25 19 rfl dX7_text_16 rfl (fun hc => ?_) (fun hc => ?_)
      · replace hf := f_if hf hc
        refine Go.aload_n 0 26 rfl dX7_text_25 rfl ?_
        obtain ⟨k26, qk26, hk26, hf⟩ := f_rfd hf
        refine Go.getR 29 rfl dX7_text_26 fl_X7_16 rfl (isT_lt ha0) (isT_sh ha0) qk26 ?_
        refine Go.iload_n 1 30 rfl dX7_text_29 rfl ?_
        refine Go.iload_n 2 31 rfl dX7_text_30 rfl ?_
        obtain ⟨g31, hf⟩ := f_grd hf
        obtain ⟨S31, eS31, hf⟩ := f_nm hf
        refine Go.iast 32 rfl dX7_text_31 (isT_lt hk26) (isT_sh hk26) g31 (Go.stt S31 eS31 ?_)
        refine Go.iconst (0 : Int32) 33 rfl dX7_text_32 ci_0 ?_
        refine Go.istore_n 34 [(3, .int (0 : Int32)), (0, .ref a0), (1, .int a1), (2, .int a2)] rfl dX7_text_33 (by decide) rfl ?_
        obtain ⟨K59, eK59, hf⟩ := f_jn hf
        have J59 : ∀ (x59S : aSt), K59 x59S = some (r, Sr) → GoM G l 3 (TmR G (some (.int r)) 97 Sr 0 0) mX7_text 59 [(2, .int a2)] [] x59S := by
          intro x59S hf
          rw [eK59] at hf
          refine Go.iload_n 0 60 rfl dX7_text_59 rfl ?_
          exact Go.irS rfl dX7_text_60 hf
        clear eK59
        have L34 : ∀ (fu : Nat) (l34_3 : Int32) (l34S : aSt), F_X7_text_L34 a0 a1 K59 fu l34_3 l34S = some (r, Sr) → GoM G l 3 (TmR G (some (.int r)) 97 Sr 0 0) mX7_text 34 [(0, .ref a0), (1, .int a1), (2, .int a2), (3, .int l34_3)] [] l34S := by
          intro fu
          induction fu with
          | zero => intro l34_3 l34S hf; rw [F_X7_text_L34] at hf; cases hf
          | succ fu ih =>
            intro l34_3 l34S hf
            rw [F_X7_text_L34] at hf
            refine Go.iload_n 3 35 rfl dX7_text_34 rfl ?_
            refine Go.bipush (80 : Int32) 37 rfl dX7_text_35 cb_80 ?_
            refine Go.icmp_ge 59 40 rfl dX7_text_37 rfl (fun hc => ?_) (fun hc => ?_)
            · replace hf := f_if hf hc
              exact Go.sub [2] [(2, .int a2)] rfl (J59 l34S hf)
            · replace hf := f_el hf hc
              refine Go.aload_n 0 41 rfl dX7_text_40 rfl ?_
              obtain ⟨k41, qk41, hk41, hf⟩ := f_rfd hf
              refine Go.getR 44 rfl dX7_text_41 fl_X7_19 rfl (isT_lt ha0) (isT_sh ha0) qk41 ?_
              refine Go.bipush (80 : Int32) 46 rfl dX7_text_44 cb_80 ?_
              refine Go.iload_n 1 47 rfl dX7_text_46 rfl ?_
              refine Go.imul 48 rfl dX7_text_47 ?_
              refine Go.iload_n 3 49 rfl dX7_text_48 rfl ?_
              refine Go.iadd 50 rfl dX7_text_49 ?_
              refine Go.bipush (32 : Int32) 52 rfl dX7_text_50 cb_32 ?_
              obtain ⟨g52, hf⟩ := f_grd hf
              obtain ⟨S52, eS52, hf⟩ := f_nm hf
              refine Go.iast 53 rfl dX7_text_52 (isT_lt hk41) (isT_sh hk41) g52 (Go.stt S52 eS52 ?_)
              refine Go.inc 3 56 (1 : Int32) [(3, .int (l34_3 + (1 : Int32))), (0, .ref a0), (1, .int a1), (2, .int a2)] rfl dX7_text_53 rfl ci_1 (by decide) rfl ?_
              refine Go.goto 34 dX7_text_56 rfl ?_
              exact Go.sub [1, 2, 3, 0] [(0, .ref a0), (1, .int a1), (2, .int a2), (3, .int (l34_3 + (1 : Int32)))] rfl (ih (l34_3 + (1 : Int32)) S52 hf)
        exact Go.sub [1, 2, 3, 0] [(0, .ref a0), (1, .int a1), (2, .int a2), (3, .int (0 : Int32))] rfl (L34 n (0 : Int32) S31 hf)
      · replace hf := f_el hf hc
        refine Go.aload_n 0 20 rfl dX7_text_19 rfl ?_
        refine Go.iconst (5 : Int32) 21 rfl dX7_text_20 ci_5 ?_
        obtain ⟨r21, S21, er21, hf⟩ := f_bn2 hf
        refine Go.cV 24 [.int (5 : Int32)] [] (C_X7_found G l n S a0 (5 : Int32) r21 S21 ha0 er21) rfl dX7_text_21 cv_X7_76 ha0 (by decide) (by decide) rfl (Nat.le_of_ble_eq_true rfl) ?_
        exact Go.irS rfl dX7_text_24 hf
    · replace hf := f_el hf hc
      refine Go.iconst (-1 : Int32) 14 rfl dX7_text_13 ci_m1 ?_
      exact Go.irS rfl dX7_text_14 hf
theorem dX7_put_0 : decode cX7_put 0 = .ok (.iload_n 1, 1) := by decide +kernel
theorem dX7_put_1 : decode cX7_put 1 = .ok (.invokestatic 83, 3) := by decide +kernel
theorem dX7_put_4 : decode cX7_put 4 = .ok (.ifCond .ne 5, 3) := by decide +kernel
theorem dX7_put_7 : decode cX7_put 7 = .ok (.iconst (-1), 1) := by decide +kernel
theorem dX7_put_8 : decode cX7_put 8 = .ok (.ireturn, 1) := by decide +kernel
theorem dX7_put_9 : decode cX7_put 9 = .ok (.aload_n 0, 1) := by decide +kernel
theorem dX7_put_10 : decode cX7_put 10 = .ok (.getfield 16, 3) := by decide +kernel
theorem dX7_put_13 : decode cX7_put 13 = .ok (.iload_n 1, 1) := by decide +kernel
theorem dX7_put_14 : decode cX7_put 14 = .ok (.iaload, 1) := by decide +kernel
theorem dX7_put_15 : decode cX7_put 15 = .ok (.ifCond .ge 9, 3) := by decide +kernel
theorem dX7_put_18 : decode cX7_put 18 = .ok (.aload_n 0, 1) := by decide +kernel
theorem dX7_put_19 : decode cX7_put 19 = .ok (.iconst 1, 1) := by decide +kernel
theorem dX7_put_20 : decode cX7_put 20 = .ok (.invokevirtual 76, 3) := by decide +kernel
theorem dX7_put_23 : decode cX7_put 23 = .ok (.ireturn, 1) := by decide +kernel
theorem dX7_put_24 : decode cX7_put 24 = .ok (.iload_n 2, 1) := by decide +kernel
theorem dX7_put_25 : decode cX7_put 25 = .ok (.i2l, 1) := by decide +kernel
theorem dX7_put_26 : decode cX7_put 26 = .ok (.lconst 0, 1) := by decide +kernel
theorem dX7_put_27 : decode cX7_put 27 = .ok (.aload_n 0, 1) := by decide +kernel
theorem dX7_put_28 : decode cX7_put 28 = .ok (.getfield 16, 3) := by decide +kernel
theorem dX7_put_31 : decode cX7_put 31 = .ok (.iload_n 1, 1) := by decide +kernel
theorem dX7_put_32 : decode cX7_put 32 = .ok (.iaload, 1) := by decide +kernel
theorem dX7_put_33 : decode cX7_put 33 = .ok (.iconst 1, 1) := by decide +kernel
theorem dX7_put_34 : decode cX7_put 34 = .ok (.isub, 1) := by decide +kernel
theorem dX7_put_35 : decode cX7_put 35 = .ok (.i2l, 1) := by decide +kernel
theorem dX7_put_36 : decode cX7_put 36 = .ok (.invokestatic 66, 3) := by decide +kernel
theorem dX7_put_39 : decode cX7_put 39 = .ok (.ifCond .ne 9, 3) := by decide +kernel
theorem dX7_put_42 : decode cX7_put 42 = .ok (.aload_n 0, 1) := by decide +kernel
theorem dX7_put_43 : decode cX7_put 43 = .ok (.iconst 2, 1) := by decide +kernel
theorem dX7_put_44 : decode cX7_put 44 = .ok (.invokevirtual 76, 3) := by decide +kernel
theorem dX7_put_47 : decode cX7_put 47 = .ok (.ireturn, 1) := by decide +kernel
theorem dX7_put_48 : decode cX7_put 48 = .ok (.aload_n 0, 1) := by decide +kernel
theorem dX7_put_49 : decode cX7_put 49 = .ok (.getfield 19, 3) := by decide +kernel
theorem dX7_put_52 : decode cX7_put 52 = .ok (.bipush 80, 2) := by decide +kernel
theorem dX7_put_54 : decode cX7_put 54 = .ok (.iload_n 1, 1) := by decide +kernel
theorem dX7_put_55 : decode cX7_put 55 = .ok (.imul, 1) := by decide +kernel
theorem dX7_put_56 : decode cX7_put 56 = .ok (.iload_n 2, 1) := by decide +kernel
theorem dX7_put_57 : decode cX7_put 57 = .ok (.iadd, 1) := by decide +kernel
theorem dX7_put_58 : decode cX7_put 58 = .ok (.iaload, 1) := by decide +kernel
theorem dX7_put_59 : decode cX7_put 59 = .ok (.istore 4, 2) := by decide +kernel
theorem dX7_put_61 : decode cX7_put 61 = .ok (.aload_n 0, 1) := by decide +kernel
theorem dX7_put_62 : decode cX7_put 62 = .ok (.getfield 19, 3) := by decide +kernel
theorem dX7_put_65 : decode cX7_put 65 = .ok (.bipush 80, 2) := by decide +kernel
theorem dX7_put_67 : decode cX7_put 67 = .ok (.iload_n 1, 1) := by decide +kernel
theorem dX7_put_68 : decode cX7_put 68 = .ok (.imul, 1) := by decide +kernel
theorem dX7_put_69 : decode cX7_put 69 = .ok (.iload_n 2, 1) := by decide +kernel
theorem dX7_put_70 : decode cX7_put 70 = .ok (.iadd, 1) := by decide +kernel
theorem dX7_put_71 : decode cX7_put 71 = .ok (.iload_n 3, 1) := by decide +kernel
theorem dX7_put_72 : decode cX7_put 72 = .ok (.i2b, 1) := by decide +kernel
theorem dX7_put_73 : decode cX7_put 73 = .ok (.iastore, 1) := by decide +kernel
theorem dX7_put_74 : decode cX7_put 74 = .ok (.iload 4, 2) := by decide +kernel
theorem dX7_put_76 : decode cX7_put 76 = .ok (.sipush 1000, 3) := by decide +kernel
theorem dX7_put_79 : decode cX7_put 79 = .ok (.iadd, 1) := by decide +kernel
theorem dX7_put_80 : decode cX7_put 80 = .ok (.ireturn, 1) := by decide +kernel
def F_X7_put (n : Nat) (S : aSt) (a0 : Nat) (a1 : Int32) (a2 : Int32) (a3 : Int32) : Option (Int32 × aSt) :=
(F_X7_isText n S a1).bind fun r1 =>
if r1 = 0 then (some ((-1 : Int32), S)) else
rfd (S.2.2 a0 2) 7 fun k10 =>
grd (inb a1 (SH k10).2) <|
if 0 ≤ (S.1 k10 a1.toNatClampNeg) then (grd (inb a1 (SH k10).2) <|
(F_X7_in n S a2.toInt64 (0 : Int64) ((S.1 k10 a1.toNatClampNeg) - (1 : Int32)).toInt64).bind fun r36 =>
if r36 = 0 then (bn2 (F_X7_found n S a0 (2 : Int32)) fun r44 S44 =>
some (r44, S44)) else
rfd (S.2.2 a0 3) 7 fun k49 =>
grd (inb (((80 : Int32) * a1) + a2) (SH k49).2) <|
nm (S.1 k49 (((80 : Int32) * a1) + a2).toNatClampNeg) fun v59 =>
grd (inb (((80 : Int32) * a1) + a2) (SH k49).2) <|
nm (stI S k49 (((80 : Int32) * a1) + a2).toNatClampNeg a3.toInt8.toInt32) fun S73 =>
some ((v59 + (1000 : Int32)), S73)) else
bn2 (F_X7_found n S a0 (1 : Int32)) fun r20 S20 =>
some (r20, S20)
set_option maxHeartbeats 4000000 in
set_option maxRecDepth 100000 in
theorem C_X7_put (G : aG) (l : Launch) (n : Nat) (S : aSt) (a0 : Nat) (a1 : Int32) (a2 : Int32) (a3 : Int32) (r : Int32) (Sr : aSt) (ha0 : isT a0 6 = true) (hf : F_X7_put n S a0 a1 a2 a3 = some (r, Sr)) : Ctr G l yX7_put mX7_put (rmM 3) 97 97 S [.ref a0, .int a1, .int a2, .int a3] (some (.int r)) Sr := by
  refine Ctr.of (by decide) rfl rfl (Nat.le_of_ble_eq_true rfl) [(0, .ref a0), (1, .int a1), (2, .int a2), (3, .int a3)] rfl ?_
  unfold F_X7_put at hf
  refine Go.iload_n 1 1 rfl dX7_put_0 rfl ?_
  obtain ⟨r1, er1, hf⟩ := f_bnd hf
  refine Go.cS 4 [.int a1] [] (C_X7_isText G l n S a1 r1  er1) rfl dX7_put_1 cx_X7_83 (by decide) (by decide) rfl (Nat.le_of_ble_eq_true rfl) ?_
  refine Go.if_ne 9 7 rfl dX7_put_4 rfl (fun hc => ?_) (fun hc => ?_)
  · replace hf := f_el hf hc
    refine Go.aload_n 0 10 rfl dX7_put_9 rfl ?_
    obtain ⟨k10, qk10, hk10, hf⟩ := f_rfd hf
    refine Go.getR 13 rfl dX7_put_10 fl_X7_16 rfl (isT_lt ha0) (isT_sh ha0) qk10 ?_
    refine Go.iload_n 1 14 rfl dX7_put_13 rfl ?_
    obtain ⟨g14, hf⟩ := f_grd hf
    refine Go.iald 15 rfl dX7_put_14 (isT_lt hk10) (isT_sh hk10) g14 ?_
    refine Go.if_ge 24 18 rfl dX7_put_15 rfl (fun hc => ?_) (fun hc => ?_)
    · replace hf := f_if hf hc
      refine Go.iload_n 2 25 rfl dX7_put_24 rfl ?_
      refine Go.i2l 26 rfl dX7_put_25 ?_
      refine Go.lconst (0 : Int64) 27 rfl dX7_put_26 cl_0 ?_
      refine Go.aload_n 0 28 rfl dX7_put_27 rfl ?_
      refine Go.getR 31 rfl dX7_put_28 fl_X7_16 rfl (isT_lt ha0) (isT_sh ha0) qk10 ?_
      refine Go.iload_n 1 32 rfl dX7_put_31 rfl ?_
      obtain ⟨g32, hf⟩ := f_grd hf
      refine Go.iald 33 rfl dX7_put_32 (isT_lt hk10) (isT_sh hk10) g32 ?_
      refine Go.iconst (1 : Int32) 34 rfl dX7_put_33 ci_1 ?_
      refine Go.isub 35 rfl dX7_put_34 ?_
      refine Go.i2l 36 rfl dX7_put_35 ?_
      obtain ⟨r36, er36, hf⟩ := f_bnd hf
      refine Go.cS 39 [.long a2.toInt64, .long (0 : Int64), .long ((S.1 k10 a1.toNatClampNeg) - (1 : Int32)).toInt64] [] (C_X7_in G l n S a2.toInt64 (0 : Int64) ((S.1 k10 a1.toNatClampNeg) - (1 : Int32)).toInt64 r36  er36) rfl dX7_put_36 cx_X7_66 (by decide) (by decide) rfl (Nat.le_of_ble_eq_true rfl) ?_
      refine Go.if_ne 48 42 rfl dX7_put_39 rfl (fun hc => ?_) (fun hc => ?_)
      · replace hf := f_el hf hc
        refine Go.aload_n 0 49 rfl dX7_put_48 rfl ?_
        obtain ⟨k49, qk49, hk49, hf⟩ := f_rfd hf
        refine Go.getR 52 rfl dX7_put_49 fl_X7_19 rfl (isT_lt ha0) (isT_sh ha0) qk49 ?_
        refine Go.bipush (80 : Int32) 54 rfl dX7_put_52 cb_80 ?_
        refine Go.iload_n 1 55 rfl dX7_put_54 rfl ?_
        refine Go.imul 56 rfl dX7_put_55 ?_
        refine Go.iload_n 2 57 rfl dX7_put_56 rfl ?_
        refine Go.iadd 58 rfl dX7_put_57 ?_
        obtain ⟨g58, hf⟩ := f_grd hf
        refine Go.iald 59 rfl dX7_put_58 (isT_lt hk49) (isT_sh hk49) g58 ?_
        obtain ⟨v59, ev59, hf⟩ := f_nm hf
        refine Go.topi v59 ev59 ?_
        refine Go.istore 61 [(4, .int v59), (0, .ref a0), (1, .int a1), (2, .int a2), (3, .int a3)] rfl dX7_put_59 (by decide) rfl ?_
        refine Go.aload_n 1 62 rfl dX7_put_61 rfl ?_
        refine Go.getR 65 rfl dX7_put_62 fl_X7_19 rfl (isT_lt ha0) (isT_sh ha0) qk49 ?_
        refine Go.bipush (80 : Int32) 67 rfl dX7_put_65 cb_80 ?_
        refine Go.iload_n 2 68 rfl dX7_put_67 rfl ?_
        refine Go.imul 69 rfl dX7_put_68 ?_
        refine Go.iload_n 3 70 rfl dX7_put_69 rfl ?_
        refine Go.iadd 71 rfl dX7_put_70 ?_
        refine Go.iload_n 4 72 rfl dX7_put_71 rfl ?_
        refine Go.i2b 73 rfl dX7_put_72 ?_
        obtain ⟨g73, hf⟩ := f_grd hf
        obtain ⟨S73, eS73, hf⟩ := f_nm hf
        refine Go.iast 74 rfl dX7_put_73 (isT_lt hk49) (isT_sh hk49) g73 (Go.stt S73 eS73 ?_)
        refine Go.iload 0 76 rfl dX7_put_74 rfl ?_
        refine Go.sipush (1000 : Int32) 79 rfl dX7_put_76 cs_1000 ?_
        refine Go.iadd 80 rfl dX7_put_79 ?_
        exact Go.irS rfl dX7_put_80 hf
      · replace hf := f_if hf hc
        refine Go.aload_n 0 43 rfl dX7_put_42 rfl ?_
        refine Go.iconst (2 : Int32) 44 rfl dX7_put_43 ci_2 ?_
        obtain ⟨r44, S44, er44, hf⟩ := f_bn2 hf
        refine Go.cV 47 [.int (2 : Int32)] [] (C_X7_found G l n S a0 (2 : Int32) r44 S44 ha0 er44) rfl dX7_put_44 cv_X7_76 ha0 (by decide) (by decide) rfl (Nat.le_of_ble_eq_true rfl) ?_
        exact Go.irS rfl dX7_put_47 hf
    · replace hf := f_el hf hc
      refine Go.aload_n 0 19 rfl dX7_put_18 rfl ?_
      refine Go.iconst (1 : Int32) 20 rfl dX7_put_19 ci_1 ?_
      obtain ⟨r20, S20, er20, hf⟩ := f_bn2 hf
      refine Go.cV 23 [.int (1 : Int32)] [] (C_X7_found G l n S a0 (1 : Int32) r20 S20 ha0 er20) rfl dX7_put_20 cv_X7_76 ha0 (by decide) (by decide) rfl (Nat.le_of_ble_eq_true rfl) ?_
      exact Go.irS rfl dX7_put_23 hf
  · replace hf := f_if hf hc
    refine Go.iconst (-1 : Int32) 8 rfl dX7_put_7 ci_m1 ?_
    exact Go.irS rfl dX7_put_8 hf
theorem dX7_kindOf_0 : decode cX7_kindOf 0 = .ok (.iload_n 0, 1) := by decide +kernel
theorem dX7_kindOf_1 : decode cX7_kindOf 1 = .ok (.bipush 110, 2) := by decide +kernel
theorem dX7_kindOf_3 : decode cX7_kindOf 3 = .ok (.if_icmp .ne 7, 3) := by decide +kernel
theorem dX7_kindOf_6 : decode cX7_kindOf 6 = .ok (.iconst 0, 1) := by decide +kernel
theorem dX7_kindOf_7 : decode cX7_kindOf 7 = .ok (.goto 54, 3) := by decide +kernel
theorem dX7_kindOf_10 : decode cX7_kindOf 10 = .ok (.iload_n 0, 1) := by decide +kernel
theorem dX7_kindOf_11 : decode cX7_kindOf 11 = .ok (.bipush 121, 2) := by decide +kernel
theorem dX7_kindOf_13 : decode cX7_kindOf 13 = .ok (.if_icmp .ne 7, 3) := by decide +kernel
theorem dX7_kindOf_16 : decode cX7_kindOf 16 = .ok (.iconst 1, 1) := by decide +kernel
theorem dX7_kindOf_17 : decode cX7_kindOf 17 = .ok (.goto 44, 3) := by decide +kernel
theorem dX7_kindOf_20 : decode cX7_kindOf 20 = .ok (.iload_n 0, 1) := by decide +kernel
theorem dX7_kindOf_21 : decode cX7_kindOf 21 = .ok (.bipush 112, 2) := by decide +kernel
theorem dX7_kindOf_23 : decode cX7_kindOf 23 = .ok (.if_icmp .ne 7, 3) := by decide +kernel
theorem dX7_kindOf_26 : decode cX7_kindOf 26 = .ok (.iconst 2, 1) := by decide +kernel
theorem dX7_kindOf_27 : decode cX7_kindOf 27 = .ok (.goto 34, 3) := by decide +kernel
theorem dX7_kindOf_30 : decode cX7_kindOf 30 = .ok (.iload_n 0, 1) := by decide +kernel
theorem dX7_kindOf_31 : decode cX7_kindOf 31 = .ok (.bipush 118, 2) := by decide +kernel
theorem dX7_kindOf_33 : decode cX7_kindOf 33 = .ok (.if_icmp .ne 7, 3) := by decide +kernel
theorem dX7_kindOf_36 : decode cX7_kindOf 36 = .ok (.iconst 3, 1) := by decide +kernel
theorem dX7_kindOf_37 : decode cX7_kindOf 37 = .ok (.goto 24, 3) := by decide +kernel
theorem dX7_kindOf_40 : decode cX7_kindOf 40 = .ok (.iload_n 0, 1) := by decide +kernel
theorem dX7_kindOf_41 : decode cX7_kindOf 41 = .ok (.bipush 116, 2) := by decide +kernel
theorem dX7_kindOf_43 : decode cX7_kindOf 43 = .ok (.if_icmp .ne 7, 3) := by decide +kernel
theorem dX7_kindOf_46 : decode cX7_kindOf 46 = .ok (.iconst 4, 1) := by decide +kernel
theorem dX7_kindOf_47 : decode cX7_kindOf 47 = .ok (.goto 14, 3) := by decide +kernel
theorem dX7_kindOf_50 : decode cX7_kindOf 50 = .ok (.iload_n 0, 1) := by decide +kernel
theorem dX7_kindOf_51 : decode cX7_kindOf 51 = .ok (.bipush 98, 2) := by decide +kernel
theorem dX7_kindOf_53 : decode cX7_kindOf 53 = .ok (.if_icmp .ne 7, 3) := by decide +kernel
theorem dX7_kindOf_56 : decode cX7_kindOf 56 = .ok (.iconst 5, 1) := by decide +kernel
theorem dX7_kindOf_57 : decode cX7_kindOf 57 = .ok (.goto 4, 3) := by decide +kernel
theorem dX7_kindOf_60 : decode cX7_kindOf 60 = .ok (.iconst (-1), 1) := by decide +kernel
theorem dX7_kindOf_61 : decode cX7_kindOf 61 = .ok (.ireturn, 1) := by decide +kernel
def F_X7_kindOf (n : Nat) (S : aSt) (a0 : Int32) : Option Int32 :=
if a0 = (110 : Int32) then (some (0 : Int32)) else
if a0 = (121 : Int32) then (some (1 : Int32)) else
if a0 = (112 : Int32) then (some (2 : Int32)) else
if a0 = (118 : Int32) then (some (3 : Int32)) else
if a0 = (116 : Int32) then (some (4 : Int32)) else
if a0 = (98 : Int32) then (some (5 : Int32)) else
some (-1 : Int32)
set_option maxHeartbeats 4000000 in
set_option maxRecDepth 100000 in
theorem C_X7_kindOf (G : aG) (l : Launch) (n : Nat) (S : aSt) (a0 : Int32) (r : Int32)  (hf : F_X7_kindOf n S a0 = some r) : Ctr G l yX7_kindOf mX7_kindOf (rmM 1) 97 97 S [.int a0] (some (.int r)) S := by
  refine Ctr.of (by decide) rfl rfl (Nat.le_of_ble_eq_true rfl) [(0, .int a0)] rfl ?_
  unfold F_X7_kindOf at hf
  refine Go.iload_n 0 1 rfl dX7_kindOf_0 rfl ?_
  refine Go.bipush (110 : Int32) 3 rfl dX7_kindOf_1 cb_110 ?_
  refine Go.icmp_ne 10 6 rfl dX7_kindOf_3 rfl (fun hc => ?_) (fun hc => ?_)
  · replace hf := f_el hf hc
    refine Go.iload_n 0 11 rfl dX7_kindOf_10 rfl ?_
    refine Go.bipush (121 : Int32) 13 rfl dX7_kindOf_11 cb_121 ?_
    refine Go.icmp_ne 20 16 rfl dX7_kindOf_13 rfl (fun hc => ?_) (fun hc => ?_)
    · replace hf := f_el hf hc
      refine Go.iload_n 0 21 rfl dX7_kindOf_20 rfl ?_
      refine Go.bipush (112 : Int32) 23 rfl dX7_kindOf_21 cb_112 ?_
      refine Go.icmp_ne 30 26 rfl dX7_kindOf_23 rfl (fun hc => ?_) (fun hc => ?_)
      · replace hf := f_el hf hc
        refine Go.iload_n 0 31 rfl dX7_kindOf_30 rfl ?_
        refine Go.bipush (118 : Int32) 33 rfl dX7_kindOf_31 cb_118 ?_
        refine Go.icmp_ne 40 36 rfl dX7_kindOf_33 rfl (fun hc => ?_) (fun hc => ?_)
        · replace hf := f_el hf hc
          refine Go.iload_n 0 41 rfl dX7_kindOf_40 rfl ?_
          refine Go.bipush (116 : Int32) 43 rfl dX7_kindOf_41 cb_116 ?_
          refine Go.icmp_ne 50 46 rfl dX7_kindOf_43 rfl (fun hc => ?_) (fun hc => ?_)
          · replace hf := f_el hf hc
            refine Go.iload_n 0 51 rfl dX7_kindOf_50 rfl ?_
            refine Go.bipush (98 : Int32) 53 rfl dX7_kindOf_51 cb_98 ?_
            refine Go.icmp_ne 60 56 rfl dX7_kindOf_53 rfl (fun hc => ?_) (fun hc => ?_)
            · replace hf := f_el hf hc
              refine Go.iconst (-1 : Int32) 61 rfl dX7_kindOf_60 ci_m1 ?_
              exact Go.ir rfl dX7_kindOf_61 hf
            · replace hf := f_if hf hc
              refine Go.iconst (5 : Int32) 57 rfl dX7_kindOf_56 ci_5 ?_
              refine Go.goto 61 dX7_kindOf_57 rfl ?_
              exact Go.ir rfl dX7_kindOf_61 hf
          · replace hf := f_if hf hc
            refine Go.iconst (4 : Int32) 47 rfl dX7_kindOf_46 ci_4 ?_
            refine Go.goto 61 dX7_kindOf_47 rfl ?_
            exact Go.ir rfl dX7_kindOf_61 hf
        · replace hf := f_if hf hc
          refine Go.iconst (3 : Int32) 37 rfl dX7_kindOf_36 ci_3 ?_
          refine Go.goto 61 dX7_kindOf_37 rfl ?_
          exact Go.ir rfl dX7_kindOf_61 hf
      · replace hf := f_if hf hc
        refine Go.iconst (2 : Int32) 27 rfl dX7_kindOf_26 ci_2 ?_
        refine Go.goto 61 dX7_kindOf_27 rfl ?_
        exact Go.ir rfl dX7_kindOf_61 hf
    · replace hf := f_if hf hc
      refine Go.iconst (1 : Int32) 17 rfl dX7_kindOf_16 ci_1 ?_
      refine Go.goto 61 dX7_kindOf_17 rfl ?_
      exact Go.ir rfl dX7_kindOf_61 hf
  · replace hf := f_if hf hc
    refine Go.iconst (0 : Int32) 7 rfl dX7_kindOf_6 ci_0 ?_
    refine Go.goto 61 dX7_kindOf_7 rfl ?_
    exact Go.ir rfl dX7_kindOf_61 hf
theorem dX7_byteAt_0 : decode cX7_byteAt 0 = .ok (.aload_n 0, 1) := by decide +kernel
theorem dX7_byteAt_1 : decode cX7_byteAt 1 = .ok (.getfield 86, 3) := by decide +kernel
theorem dX7_byteAt_4 : decode cX7_byteAt 4 = .ok (.aload_n 0, 1) := by decide +kernel
theorem dX7_byteAt_5 : decode cX7_byteAt 5 = .ok (.getfield 16, 3) := by decide +kernel
theorem dX7_byteAt_8 : decode cX7_byteAt 8 = .ok (.iload_n 1, 1) := by decide +kernel
theorem dX7_byteAt_9 : decode cX7_byteAt 9 = .ok (.iaload, 1) := by decide +kernel
theorem dX7_byteAt_10 : decode cX7_byteAt 10 = .ok (.if_icmp .ge 20, 3) := by decide +kernel
theorem dX7_byteAt_13 : decode cX7_byteAt 13 = .ok (.aload_n 0, 1) := by decide +kernel
theorem dX7_byteAt_14 : decode cX7_byteAt 14 = .ok (.getfield 19, 3) := by decide +kernel
theorem dX7_byteAt_17 : decode cX7_byteAt 17 = .ok (.bipush 80, 2) := by decide +kernel
theorem dX7_byteAt_19 : decode cX7_byteAt 19 = .ok (.iload_n 1, 1) := by decide +kernel
theorem dX7_byteAt_20 : decode cX7_byteAt 20 = .ok (.imul, 1) := by decide +kernel
theorem dX7_byteAt_21 : decode cX7_byteAt 21 = .ok (.aload_n 0, 1) := by decide +kernel
theorem dX7_byteAt_22 : decode cX7_byteAt 22 = .ok (.getfield 86, 3) := by decide +kernel
theorem dX7_byteAt_25 : decode cX7_byteAt 25 = .ok (.iadd, 1) := by decide +kernel
theorem dX7_byteAt_26 : decode cX7_byteAt 26 = .ok (.iaload, 1) := by decide +kernel
theorem dX7_byteAt_27 : decode cX7_byteAt 27 = .ok (.goto 6, 3) := by decide +kernel
theorem dX7_byteAt_30 : decode cX7_byteAt 30 = .ok (.sipush (-1000), 3) := by decide +kernel
theorem dX7_byteAt_33 : decode cX7_byteAt 33 = .ok (.ireturn, 1) := by decide +kernel
def F_X7_byteAt (n : Nat) (S : aSt) (a0 : Nat) (a1 : Int32) : Option Int32 :=
rfd (S.2.2 a0 2) 7 fun k5 =>
grd (inb a1 (SH k5).2) <|
if (S.1 k5 a1.toNatClampNeg) ≤ (S.1 a0 13) then (some (-1000 : Int32)) else
rfd (S.2.2 a0 3) 7 fun k14 =>
grd (inb (((80 : Int32) * a1) + (S.1 a0 13)) (SH k14).2) <|
some (S.1 k14 (((80 : Int32) * a1) + (S.1 a0 13)).toNatClampNeg)
set_option maxHeartbeats 4000000 in
set_option maxRecDepth 100000 in
theorem C_X7_byteAt (G : aG) (l : Launch) (n : Nat) (S : aSt) (a0 : Nat) (a1 : Int32) (r : Int32) (ha0 : isT a0 6 = true) (hf : F_X7_byteAt n S a0 a1 = some r) : Ctr G l yX7_byteAt mX7_byteAt (rmM 1) 97 97 S [.ref a0, .int a1] (some (.int r)) S := by
  refine Ctr.of (by decide) rfl rfl (Nat.le_of_ble_eq_true rfl) [(0, .ref a0), (1, .int a1)] rfl ?_
  unfold F_X7_byteAt at hf
  refine Go.aload_n 0 1 rfl dX7_byteAt_0 rfl ?_
  refine Go.getI 4 rfl dX7_byteAt_1 fl_X7_86 rfl (isT_lt ha0) (isT_sh ha0) ?_
  refine Go.aload_n 0 5 rfl dX7_byteAt_4 rfl ?_
  obtain ⟨k5, qk5, hk5, hf⟩ := f_rfd hf
  refine Go.getR 8 rfl dX7_byteAt_5 fl_X7_16 rfl (isT_lt ha0) (isT_sh ha0) qk5 ?_
  refine Go.iload_n 1 9 rfl dX7_byteAt_8 rfl ?_
  obtain ⟨g9, hf⟩ := f_grd hf
  refine Go.iald 10 rfl dX7_byteAt_9 (isT_lt hk5) (isT_sh hk5) g9 ?_
  refine Go.icmp_ge 30 13 rfl dX7_byteAt_10 rfl (fun hc => ?_) (fun hc => ?_)
  · replace hf := f_if hf hc
    refine Go.sipush (-1000 : Int32) 33 rfl dX7_byteAt_30 cs_m1000 ?_
    exact Go.ir rfl dX7_byteAt_33 hf
  · replace hf := f_el hf hc
    refine Go.aload_n 0 14 rfl dX7_byteAt_13 rfl ?_
    obtain ⟨k14, qk14, hk14, hf⟩ := f_rfd hf
    refine Go.getR 17 rfl dX7_byteAt_14 fl_X7_19 rfl (isT_lt ha0) (isT_sh ha0) qk14 ?_
    refine Go.bipush (80 : Int32) 19 rfl dX7_byteAt_17 cb_80 ?_
    refine Go.iload_n 1 20 rfl dX7_byteAt_19 rfl ?_
    refine Go.imul 21 rfl dX7_byteAt_20 ?_
    refine Go.aload_n 0 22 rfl dX7_byteAt_21 rfl ?_
    refine Go.getI 25 rfl dX7_byteAt_22 fl_X7_86 rfl (isT_lt ha0) (isT_sh ha0) ?_
    refine Go.iadd 26 rfl dX7_byteAt_25 ?_
    obtain ⟨g26, hf⟩ := f_grd hf
    refine Go.iald 27 rfl dX7_byteAt_26 (isT_lt hk14) (isT_sh hk14) g26 ?_
    refine Go.goto 33 dX7_byteAt_27 rfl ?_
    exact Go.ir rfl dX7_byteAt_33 hf
