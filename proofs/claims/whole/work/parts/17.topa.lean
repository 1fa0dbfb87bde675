/-! written by program: X6_found X6_isRow X6_row X6_lay X6_at X6_tear X6_copy X6_mean X6_isText X6_text X6_put X6_fault X6_library X6_card X6_question X6_mark X6_shelve -/
theorem dX6_found_0 : decode cX6_found 0 = .ok (.aload_n 0, 1) := by decide +kernel
theorem dX6_found_1 : decode cX6_found 1 = .ok (.iload_n 1, 1) := by decide +kernel
theorem dX6_found_2 : decode cX6_found 2 = .ok (.putfield 63, 3) := by decide +kernel
theorem dX6_found_5 : decode cX6_found 5 = .ok (.aload_n 0, 1) := by decide +kernel
theorem dX6_found_6 : decode cX6_found 6 = .ok (.getfield 24, 3) := by decide +kernel
theorem dX6_found_9 : decode cX6_found 9 = .ok (.iload_n 1, 1) := by decide +kernel
theorem dX6_found_10 : decode cX6_found 10 = .ok (.dup2, 1) := by decide +kernel
theorem dX6_found_11 : decode cX6_found 11 = .ok (.iaload, 1) := by decide +kernel
theorem dX6_found_12 : decode cX6_found 12 = .ok (.iconst 1, 1) := by decide +kernel
theorem dX6_found_13 : decode cX6_found 13 = .ok (.iadd, 1) := by decide +kernel
theorem dX6_found_14 : decode cX6_found 14 = .ok (.iastore, 1) := by decide +kernel
theorem dX6_found_15 : decode cX6_found 15 = .ok (.bipush (-3), 2) := by decide +kernel
theorem dX6_found_17 : decode cX6_found 17 = .ok (.ireturn, 1) := by decide +kernel
def F_X6_found (n : Nat) (S : aSt) (a0 : Nat) (a1 : Int32) : Option (Int32 × aSt) :=
nm (stI S a0 11 a1) fun S2 =>
rfd (S2.2.2 a0 3) 7 fun k6 =>
grd (inb a1 (SH k6).2) <|
grd (inb a1 (SH k6).2) <|
nm (stI S2 k6 a1.toNatClampNeg ((S2.1 k6 a1.toNatClampNeg) + (1 : Int32))) fun S14 =>
some ((-3 : Int32), S14)
set_option maxHeartbeats 4000000 in
set_option maxRecDepth 100000 in
theorem C_X6_found (G : aG) (l : Launch) (n : Nat) (S : aSt) (a0 : Nat) (a1 : Int32) (r : Int32) (Sr : aSt) (ha0 : isT a0 5 = true) (hf : F_X6_found n S a0 a1 = some (r, Sr)) : Ctr G l yX6_found mX6_found (rmM 1) 97 97 S [.ref a0, .int a1] (some (.int r)) Sr := by
  refine Ctr.of (by decide) rfl rfl (Nat.le_of_ble_eq_true rfl) [(0, .ref a0), (1, .int a1)] rfl ?_
  unfold F_X6_found at hf
  refine Go.aload_n 0 1 rfl dX6_found_0 rfl ?_
  refine Go.iload_n 1 2 rfl dX6_found_1 rfl ?_
  obtain ⟨S2, eS2, hf⟩ := f_nm hf
  refine Go.putI 5 rfl dX6_found_2 fp_X6_63 rfl (isT_lt ha0) (isT_sh ha0) (fun h => by cases h) (Go.stt S2 eS2 ?_)
  refine Go.aload_n 0 6 rfl dX6_found_5 rfl ?_
  obtain ⟨k6, qk6, hk6, hf⟩ := f_rfd hf
  refine Go.getR 9 rfl dX6_found_6 fl_X6_24 rfl (isT_lt ha0) (isT_sh ha0) qk6 ?_
  refine Go.iload_n 1 10 rfl dX6_found_9 rfl ?_
  refine Go.dup2 11 rfl dX6_found_10 rfl rfl ?_
  obtain ⟨g11, hf⟩ := f_grd hf
  refine Go.iald 12 rfl dX6_found_11 (isT_lt hk6) (isT_sh hk6) g11 ?_
  refine Go.iconst (1 : Int32) 13 rfl dX6_found_12 ci_1 ?_
  refine Go.iadd 14 rfl dX6_found_13 ?_
  obtain ⟨g14, hf⟩ := f_grd hf
  obtain ⟨S14, eS14, hf⟩ := f_nm hf
  refine Go.iast 15 rfl dX6_found_14 (isT_lt hk6) (isT_sh hk6) g14 (Go.stt S14 eS14 ?_)
  refine Go.bipush (-3 : Int32) 17 rfl dX6_found_15 cb_m3 ?_
  exact Go.irS rfl dX6_found_17 hf
theorem dX6_isRow_0 : decode cX6_isRow 0 = .ok (.iload_n 0, 1) := by decide +kernel
theorem dX6_isRow_1 : decode cX6_isRow 1 = .ok (.ifCond .lt 13, 3) := by decide +kernel
theorem dX6_isRow_4 : decode cX6_isRow 4 = .ok (.iload_n 0, 1) := by decide +kernel
theorem dX6_isRow_5 : decode cX6_isRow 5 = .ok (.bipush 6, 2) := by decide +kernel
theorem dX6_isRow_7 : decode cX6_isRow 7 = .ok (.if_icmp .ge 7, 3) := by decide +kernel
theorem dX6_isRow_10 : decode cX6_isRow 10 = .ok (.iconst 1, 1) := by decide +kernel
theorem dX6_isRow_11 : decode cX6_isRow 11 = .ok (.goto 4, 3) := by decide +kernel
theorem dX6_isRow_14 : decode cX6_isRow 14 = .ok (.iconst 0, 1) := by decide +kernel
theorem dX6_isRow_15 : decode cX6_isRow 15 = .ok (.ireturn, 1) := by decide +kernel
def F_X6_isRow (n : Nat) (S : aSt) (a0 : Int32) : Option Int32 :=
if a0 < 0 then (some (0 : Int32)) else
if (6 : Int32) ≤ a0 then (some (0 : Int32)) else
some (1 : Int32)
set_option maxHeartbeats 4000000 in
set_option maxRecDepth 100000 in
theorem C_X6_isRow (G : aG) (l : Launch) (n : Nat) (S : aSt) (a0 : Int32) (r : Int32)  (hf : F_X6_isRow n S a0 = some r) : Ctr G l yX6_isRow mX6_isRow (rmM 1) 97 97 S [.int a0] (some (.int r)) S := by
  refine Ctr.of (by decide) rfl rfl (Nat.le_of_ble_eq_true rfl) [(0, .int a0)] rfl ?_
  unfold F_X6_isRow at hf
  refine Go.iload_n 0 1 rfl dX6_isRow_0 rfl ?_
  refine Go.if_lt 14 4 rfl dX6_isRow_1 rfl (fun hc => ?_) (fun hc => ?_)
  · replace hf := f_if hf hc
    refine Go.iconst (0 : Int32) 15 rfl dX6_isRow_14 ci_0 ?_
    exact Go.zr rfl (Or.inl rfl) dX6_isRow_15 hf
  · replace hf := f_el hf hc
    refine Go.iload_n 0 5 rfl dX6_isRow_4 rfl ?_
    refine Go.bipush (6 : Int32) 7 rfl dX6_isRow_5 cb_6 ?_
    refine Go.icmp_ge 14 10 rfl dX6_isRow_7 rfl (fun hc => ?_) (fun hc => ?_)
    · replace hf := f_if hf hc
      refine Go.iconst (0 : Int32) 15 rfl dX6_isRow_14 ci_0 ?_
      exact Go.zr rfl (Or.inl rfl) dX6_isRow_15 hf
    · replace hf := f_el hf hc
      refine Go.iconst (1 : Int32) 11 rfl dX6_isRow_10 ci_1 ?_
      refine Go.goto 15 dX6_isRow_11 rfl ?_
      exact Go.zr rfl (Or.inr rfl) dX6_isRow_15 hf
theorem dX6_row_0 : decode cX6_row 0 = .ok (.iload_n 1, 1) := by decide +kernel
theorem dX6_row_1 : decode cX6_row 1 = .ok (.invokestatic 70, 3) := by decide +kernel
theorem dX6_row_4 : decode cX6_row 4 = .ok (.ifCond .eq 9, 3) := by decide +kernel
theorem dX6_row_7 : decode cX6_row 7 = .ok (.iload_n 2, 1) := by decide +kernel
theorem dX6_row_8 : decode cX6_row 8 = .ok (.bipush 40, 2) := by decide +kernel
theorem dX6_row_10 : decode cX6_row 10 = .ok (.if_icmp .le 5, 3) := by decide +kernel
theorem dX6_row_13 : decode cX6_row 13 = .ok (.iconst (-1), 1) := by decide +kernel
theorem dX6_row_14 : decode cX6_row 14 = .ok (.ireturn, 1) := by decide +kernel
theorem dX6_row_15 : decode cX6_row 15 = .ok (.iload_n 2, 1) := by decide +kernel
theorem dX6_row_16 : decode cX6_row 16 = .ok (.ifCond .ge 9, 3) := by decide +kernel
theorem dX6_row_19 : decode cX6_row 19 = .ok (.aload_n 0, 1) := by decide +kernel
theorem dX6_row_20 : decode cX6_row 20 = .ok (.iconst 5, 1) := by decide +kernel
theorem dX6_row_21 : decode cX6_row 21 = .ok (.invokevirtual 74, 3) := by decide +kernel
theorem dX6_row_24 : decode cX6_row 24 = .ok (.ireturn, 1) := by decide +kernel
theorem dX6_row_25 : decode cX6_row 25 = .ok (.aload_n 0, 1) := by decide +kernel
theorem dX6_row_26 : decode cX6_row 26 = .ok (.getfield 11, 3) := by decide +kernel
theorem dX6_row_29 : decode cX6_row 29 = .ok (.iload_n 1, 1) := by decide +kernel
theorem dX6_row_30 : decode cX6_row 30 = .ok (.aaload, 1) := by decide +kernel
theorem dX6_row_31 : decode cX6_row 31 = .ok (.iload_n 2, 1) := by decide +kernel
theorem dX6_row_32 : decode cX6_row 32 = .ok (.iconst 0, 1) := by decide +kernel
theorem dX6_row_33 : decode cX6_row 33 = .ok (.invokevirtual 78, 3) := by decide +kernel
theorem dX6_row_36 : decode cX6_row 36 = .ok (.iload_n 2, 1) := by decide +kernel
theorem dX6_row_37 : decode cX6_row 37 = .ok (.ireturn, 1) := by decide +kernel
def F_X6_row (n : Nat) (S : aSt) (a0 : Nat) (a1 : Int32) (a2 : Int32) : Option (Int32 × aSt) :=
(F_X6_isRow n S a1).bind fun r1 =>
if r1 = 0 then (some ((-1 : Int32), S)) else
if a2 ≤ (40 : Int32) then (if 0 ≤ a2 then (rfd (S.2.2 a0 0) 9 fun k26 =>
grd (inb a1 (SH k26).2) <|
rfd (S.2.2 k26 a1.toNatClampNeg) 3 fun k30 =>
(F_X4_begin n S k30 a2 (0 : Int32)).bind fun S33 =>
some (a2, S33)) else
bn2 (F_X6_found n S a0 (5 : Int32)) fun r21 S21 =>
some (r21, S21)) else
some ((-1 : Int32), S)
set_option maxHeartbeats 4000000 in
set_option maxRecDepth 100000 in
theorem C_X6_row (G : aG) (l : Launch) (n : Nat) (S : aSt) (a0 : Nat) (a1 : Int32) (a2 : Int32) (r : Int32) (Sr : aSt) (ha0 : isT a0 5 = true) (hf : F_X6_row n S a0 a1 a2 = some (r, Sr)) : Ctr G l yX6_row mX6_row (rmM 3) 97 97 S [.ref a0, .int a1, .int a2] (some (.int r)) Sr := by
  refine Ctr.of (by decide) rfl rfl (Nat.le_of_ble_eq_true rfl) [(0, .ref a0), (1, .int a1), (2, .int a2)] rfl ?_
  unfold F_X6_row at hf
  refine Go.iload_n 1 1 rfl dX6_row_0 rfl ?_
  obtain ⟨r1, er1, hf⟩ := f_bnd hf
  refine Go.cS 4 [.int a1] [] (C_X6_isRow G l n S a1 r1  er1) rfl dX6_row_1 cx_X6_70 (by decide) (by decide) rfl (Nat.le_of_ble_eq_true rfl) ?_
  refine Go.if_eq 13 7 rfl dX6_row_4 rfl (fun hc => ?_) (fun hc => ?_)
  · replace hf := f_if hf hc
    refine Go.iconst (-1 : Int32) 14 rfl dX6_row_13 ci_m1 ?_
    exact Go.irS rfl dX6_row_14 hf
  · replace hf := f_el hf hc
    refine Go.iload_n 2 8 rfl dX6_row_7 rfl ?_
    refine Go.bipush (40 : Int32) 10 rfl dX6_row_8 cb_40 ?_
    refine Go.icmp_le 15 13 rfl dX6_row_10 rfl (fun hc => ?_) (fun hc => ?_)
    · replace hf := f_if hf hc
      refine Go.iload_n 2 16 rfl dX6_row_15 rfl ?_
      refine Go.if_ge 25 19 rfl dX6_row_16 rfl (fun hc => ?_) (fun hc => ?_)
      · replace hf := f_if hf hc
        refine Go.aload_n 0 26 rfl dX6_row_25 rfl ?_
        obtain ⟨k26, qk26, hk26, hf⟩ := f_rfd hf
        refine Go.getR 29 rfl dX6_row_26 fl_X6_11 rfl (isT_lt ha0) (isT_sh ha0) qk26 ?_
        refine Go.iload_n 1 30 rfl dX6_row_29 rfl ?_
        obtain ⟨g30, hf⟩ := f_grd hf
        obtain ⟨k30, qk30, hk30, hf⟩ := f_rfd hf
        refine Go.aaldR 31 rfl dX6_row_30 (isT_lt hk26) (isT_sh hk26) g30 qk30 ?_
        refine Go.iload_n 2 32 rfl dX6_row_31 rfl ?_
        refine Go.iconst (0 : Int32) 33 rfl dX6_row_32 ci_0 ?_
        obtain ⟨S33, eS33, hf⟩ := f_bnd hf
        refine Go.cVv 36 [.int a2, .int (0 : Int32)] [] (C_X4_begin G l n S k30 a2 (0 : Int32) S33 hk30 eS33) rfl dX6_row_33 cv_X6_78 hk30 (by decide) (by decide) rfl (Nat.le_of_ble_eq_true rfl) ?_
        refine Go.iload_n 2 37 rfl dX6_row_36 rfl ?_
        exact Go.irS rfl dX6_row_37 hf
      · replace hf := f_el hf hc
        refine Go.aload_n 0 20 rfl dX6_row_19 rfl ?_
        refine Go.iconst (5 : Int32) 21 rfl dX6_row_20 ci_5 ?_
        obtain ⟨r21, S21, er21, hf⟩ := f_bn2 hf
        refine Go.cV 24 [.int (5 : Int32)] [] (C_X6_found G l n S a0 (5 : Int32) r21 S21 ha0 er21) rfl dX6_row_21 cv_X6_74 ha0 (by decide) (by decide) rfl (Nat.le_of_ble_eq_true rfl) ?_
        exact Go.irS rfl dX6_row_24 hf
    · replace hf := f_el hf hc
      refine Go.iconst (-1 : Int32) 14 rfl dX6_row_13 ci_m1 ?_
      exact Go.irS rfl dX6_row_14 hf
theorem dX6_lay_0 : decode cX6_lay 0 = .ok (.iload_n 1, 1) := by decide +kernel
theorem dX6_lay_1 : decode cX6_lay 1 = .ok (.invokestatic 70, 3) := by decide +kernel
theorem dX6_lay_4 : decode cX6_lay 4 = .ok (.ifCond .ne 5, 3) := by decide +kernel
theorem dX6_lay_7 : decode cX6_lay 7 = .ok (.iconst (-1), 1) := by decide +kernel
theorem dX6_lay_8 : decode cX6_lay 8 = .ok (.ireturn, 1) := by decide +kernel
theorem dX6_lay_9 : decode cX6_lay 9 = .ok (.aload_n 0, 1) := by decide +kernel
theorem dX6_lay_10 : decode cX6_lay 10 = .ok (.getfield 11, 3) := by decide +kernel
theorem dX6_lay_13 : decode cX6_lay 13 = .ok (.iload_n 1, 1) := by decide +kernel
theorem dX6_lay_14 : decode cX6_lay 14 = .ok (.aaload, 1) := by decide +kernel
theorem dX6_lay_15 : decode cX6_lay 15 = .ok (.astore 4, 2) := by decide +kernel
theorem dX6_lay_17 : decode cX6_lay 17 = .ok (.aload 4, 2) := by decide +kernel
theorem dX6_lay_19 : decode cX6_lay 19 = .ok (.invokevirtual 82, 3) := by decide +kernel
theorem dX6_lay_22 : decode cX6_lay 22 = .ok (.ifCond .ne 9, 3) := by decide +kernel
theorem dX6_lay_25 : decode cX6_lay 25 = .ok (.aload_n 0, 1) := by decide +kernel
theorem dX6_lay_26 : decode cX6_lay 26 = .ok (.iconst 1, 1) := by decide +kernel
theorem dX6_lay_27 : decode cX6_lay 27 = .ok (.invokevirtual 74, 3) := by decide +kernel
theorem dX6_lay_30 : decode cX6_lay 30 = .ok (.ireturn, 1) := by decide +kernel
theorem dX6_lay_31 : decode cX6_lay 31 = .ok (.aload 4, 2) := by decide +kernel
theorem dX6_lay_33 : decode cX6_lay 33 = .ok (.iload_n 2, 1) := by decide +kernel
theorem dX6_lay_34 : decode cX6_lay 34 = .ok (.invokevirtual 86, 3) := by decide +kernel
theorem dX6_lay_37 : decode cX6_lay 37 = .ok (.ifCond .ne 9, 3) := by decide +kernel
theorem dX6_lay_40 : decode cX6_lay 40 = .ok (.aload_n 0, 1) := by decide +kernel
theorem dX6_lay_41 : decode cX6_lay 41 = .ok (.iconst 2, 1) := by decide +kernel
theorem dX6_lay_42 : decode cX6_lay 42 = .ok (.invokevirtual 74, 3) := by decide +kernel
theorem dX6_lay_45 : decode cX6_lay 45 = .ok (.ireturn, 1) := by decide +kernel
theorem dX6_lay_46 : decode cX6_lay 46 = .ok (.aload_n 0, 1) := by decide +kernel
theorem dX6_lay_47 : decode cX6_lay 47 = .ok (.aload 4, 2) := by decide +kernel
theorem dX6_lay_49 : decode cX6_lay 49 = .ok (.getfield 89, 3) := by decide +kernel
theorem dX6_lay_52 : decode cX6_lay 52 = .ok (.iload_n 2, 1) := by decide +kernel
theorem dX6_lay_53 : decode cX6_lay 53 = .ok (.iaload, 1) := by decide +kernel
theorem dX6_lay_54 : decode cX6_lay 54 = .ok (.putfield 52, 3) := by decide +kernel
theorem dX6_lay_57 : decode cX6_lay 57 = .ok (.aload 4, 2) := by decide +kernel
theorem dX6_lay_59 : decode cX6_lay 59 = .ok (.getfield 89, 3) := by decide +kernel
theorem dX6_lay_62 : decode cX6_lay 62 = .ok (.iload_n 2, 1) := by decide +kernel
theorem dX6_lay_63 : decode cX6_lay 63 = .ok (.iload_n 3, 1) := by decide +kernel
theorem dX6_lay_64 : decode cX6_lay 64 = .ok (.iastore, 1) := by decide +kernel
theorem dX6_lay_65 : decode cX6_lay 65 = .ok (.iconst 1, 1) := by decide +kernel
theorem dX6_lay_66 : decode cX6_lay 66 = .ok (.ireturn, 1) := by decide +kernel
def F_X6_lay (n : Nat) (S : aSt) (a0 : Nat) (a1 : Int32) (a2 : Int32) (a3 : Int32) : Option (Int32 × aSt) :=
(F_X6_isRow n S a1).bind fun r1 =>
if r1 = 0 then (some ((-1 : Int32), S)) else
rfd (S.2.2 a0 0) 9 fun k10 =>
grd (inb a1 (SH k10).2) <|
rfd (S.2.2 k10 a1.toNatClampNeg) 3 fun k14 =>
(F_X4_isThere n S k14).bind fun r19 =>
if r19 = 0 then (bn2 (F_X6_found n S a0 (1 : Int32)) fun r27 S27 =>
some (r27, S27)) else
(F_X4_reaches n S k14 a2).bind fun r34 =>
if r34 = 0 then (bn2 (F_X6_found n S a0 (2 : Int32)) fun r42 S42 =>
some (r42, S42)) else
rfd (S.2.2 k14 0) 7 fun k49 =>
grd (inb a2 (SH k49).2) <|
nm (stI S a0 8 (S.1 k49 a2.toNatClampNeg)) fun S54 =>
rfd (S54.2.2 k14 0) 7 fun k59 =>
grd (inb a2 (SH k59).2) <|
nm (stI S54 k59 a2.toNatClampNeg a3) fun S64 =>
some ((1 : Int32), S64)
set_option maxHeartbeats 4000000 in
set_option maxRecDepth 100000 in
theorem C_X6_lay (G : aG) (l : Launch) (n : Nat) (S : aSt) (a0 : Nat) (a1 : Int32) (a2 : Int32) (a3 : Int32) (r : Int32) (Sr : aSt) (ha0 : isT a0 5 = true) (hf : F_X6_lay n S a0 a1 a2 a3 = some (r, Sr)) : Ctr G l yX6_lay mX6_lay (rmM 2) 97 97 S [.ref a0, .int a1, .int a2, .int a3] (some (.int r)) Sr := by
  refine Ctr.of (by decide) rfl rfl (Nat.le_of_ble_eq_true rfl) [(0, .ref a0), (1, .int a1), (2, .int a2), (3, .int a3)] rfl ?_
  unfold F_X6_lay at hf
  refine Go.iload_n 1 1 rfl dX6_lay_0 rfl ?_
  obtain ⟨r1, er1, hf⟩ := f_bnd hf
  refine Go.cS 4 [.int a1] [] (C_X6_isRow G l n S a1 r1  er1) rfl dX6_lay_1 cx_X6_70 (by decide) (by decide) rfl (Nat.le_of_ble_eq_true rfl) ?_
  refine Go.if_ne 9 7 rfl dX6_lay_4 rfl (fun hc => ?_) (fun hc => ?_)
  · replace hf := f_el hf hc
    refine Go.aload_n 0 10 rfl dX6_lay_9 rfl ?_
    obtain ⟨k10, qk10, hk10, hf⟩ := f_rfd hf
    refine Go.getR 13 rfl dX6_lay_10 fl_X6_11 rfl (isT_lt ha0) (isT_sh ha0) qk10 ?_
    refine Go.iload_n 1 14 rfl dX6_lay_13 rfl ?_
    obtain ⟨g14, hf⟩ := f_grd hf
    obtain ⟨k14, qk14, hk14, hf⟩ := f_rfd hf
    refine Go.aaldR 15 rfl dX6_lay_14 (isT_lt hk10) (isT_sh hk10) g14 qk14 ?_
    refine Go.astore 17 [(4, .ref k14), (0, .ref a0), (1, .int a1), (2, .int a2), (3, .int a3)] rfl dX6_lay_15 (by decide) rfl ?_
    refine Go.aload 0 19 rfl dX6_lay_17 rfl ?_
    obtain ⟨r19, er19, hf⟩ := f_bnd hf
    refine Go.cV 22 [] [] (C_X4_isThere G l n S k14 r19 hk14 er19) rfl dX6_lay_19 cv_X6_82 hk14 (by decide) (by decide) rfl (Nat.le_of_ble_eq_true rfl) ?_
    refine Go.if_ne 31 25 rfl dX6_lay_22 rfl (fun hc => ?_) (fun hc => ?_)
    · replace hf := f_el hf hc
      refine Go.aload 0 33 rfl dX6_lay_31 rfl ?_
      refine Go.iload_n 3 34 rfl dX6_lay_33 rfl ?_
      obtain ⟨r34, er34, hf⟩ := f_bnd hf
      refine Go.cV 37 [.int a2] [] (C_X4_reaches G l n S k14 a2 r34 hk14 er34) rfl dX6_lay_34 cv_X6_86 hk14 (by decide) (by decide) rfl (Nat.le_of_ble_eq_true rfl) ?_
      refine Go.if_ne 46 40 rfl dX6_lay_37 rfl (fun hc => ?_) (fun hc => ?_)
      · replace hf := f_el hf hc
        refine Go.aload_n 1 47 rfl dX6_lay_46 rfl ?_
        refine Go.aload 0 49 rfl dX6_lay_47 rfl ?_
        obtain ⟨k49, qk49, hk49, hf⟩ := f_rfd hf
        refine Go.getR 52 rfl dX6_lay_49 fl_X6_89 rfl (isT_lt hk14) (isT_sh hk14) qk49 ?_
        refine Go.iload_n 3 53 rfl dX6_lay_52 rfl ?_
        obtain ⟨g53, hf⟩ := f_grd hf
        refine Go.iald 54 rfl dX6_lay_53 (isT_lt hk49) (isT_sh hk49) g53 ?_
        obtain ⟨S54, eS54, hf⟩ := f_nm hf
        refine Go.putI 57 rfl dX6_lay_54 fp_X6_52 rfl (isT_lt ha0) (isT_sh ha0) (fun h => by cases h) (Go.stt S54 eS54 ?_)
        refine Go.aload 0 59 rfl dX6_lay_57 rfl ?_
        obtain ⟨k59, qk59, hk59, hf⟩ := f_rfd hf
        refine Go.getR 62 rfl dX6_lay_59 fl_X6_89 rfl (isT_lt hk14) (isT_sh hk14) qk59 ?_
        refine Go.iload_n 3 63 rfl dX6_lay_62 rfl ?_
        refine Go.iload_n 4 64 rfl dX6_lay_63 rfl ?_
        obtain ⟨g64, hf⟩ := f_grd hf
        obtain ⟨S64, eS64, hf⟩ := f_nm hf
        refine Go.iast 65 rfl dX6_lay_64 (isT_lt hk59) (isT_sh hk59) g64 (Go.stt S64 eS64 ?_)
        refine Go.iconst (1 : Int32) 66 rfl dX6_lay_65 ci_1 ?_
        exact Go.irS rfl dX6_lay_66 hf
      · replace hf := f_if hf hc
        refine Go.aload_n 1 41 rfl dX6_lay_40 rfl ?_
        refine Go.iconst (2 : Int32) 42 rfl dX6_lay_41 ci_2 ?_
        obtain ⟨r42, S42, er42, hf⟩ := f_bn2 hf
        refine Go.cV 45 [.int (2 : Int32)] [] (C_X6_found G l n S a0 (2 : Int32) r42 S42 ha0 er42) rfl dX6_lay_42 cv_X6_74 ha0 (by decide) (by decide) rfl (Nat.le_of_ble_eq_true rfl) ?_
        exact Go.irS rfl dX6_lay_45 hf
    · replace hf := f_if hf hc
      refine Go.aload_n 1 26 rfl dX6_lay_25 rfl ?_
      refine Go.iconst (1 : Int32) 27 rfl dX6_lay_26 ci_1 ?_
      obtain ⟨r27, S27, er27, hf⟩ := f_bn2 hf
      refine Go.cV 30 [.int (1 : Int32)] [] (C_X6_found G l n S a0 (1 : Int32) r27 S27 ha0 er27) rfl dX6_lay_27 cv_X6_74 ha0 (by decide) (by decide) rfl (Nat.le_of_ble_eq_true rfl) ?_
      exact Go.irS rfl dX6_lay_30 hf
  · replace hf := f_if hf hc
    refine Go.iconst (-1 : Int32) 8 rfl dX6_lay_7 ci_m1 ?_
    exact Go.irS rfl dX6_lay_8 hf
theorem dX6_at_0 : decode cX6_at 0 = .ok (.iload_n 1, 1) := by decide +kernel
theorem dX6_at_1 : decode cX6_at 1 = .ok (.invokestatic 70, 3) := by decide +kernel
theorem dX6_at_4 : decode cX6_at 4 = .ok (.ifCond .ne 5, 3) := by decide +kernel
theorem dX6_at_7 : decode cX6_at 7 = .ok (.iconst (-1), 1) := by decide +kernel
theorem dX6_at_8 : decode cX6_at 8 = .ok (.ireturn, 1) := by decide +kernel
theorem dX6_at_9 : decode cX6_at 9 = .ok (.aload_n 0, 1) := by decide +kernel
theorem dX6_at_10 : decode cX6_at 10 = .ok (.getfield 11, 3) := by decide +kernel
theorem dX6_at_13 : decode cX6_at 13 = .ok (.iload_n 1, 1) := by decide +kernel
theorem dX6_at_14 : decode cX6_at 14 = .ok (.aaload, 1) := by decide +kernel
theorem dX6_at_15 : decode cX6_at 15 = .ok (.astore_n 3, 1) := by decide +kernel
theorem dX6_at_16 : decode cX6_at 16 = .ok (.aload_n 3, 1) := by decide +kernel
theorem dX6_at_17 : decode cX6_at 17 = .ok (.invokevirtual 82, 3) := by decide +kernel
theorem dX6_at_20 : decode cX6_at 20 = .ok (.ifCond .ne 9, 3) := by decide +kernel
theorem dX6_at_23 : decode cX6_at 23 = .ok (.aload_n 0, 1) := by decide +kernel
theorem dX6_at_24 : decode cX6_at 24 = .ok (.iconst 1, 1) := by decide +kernel
theorem dX6_at_25 : decode cX6_at 25 = .ok (.invokevirtual 74, 3) := by decide +kernel
theorem dX6_at_28 : decode cX6_at 28 = .ok (.ireturn, 1) := by decide +kernel
theorem dX6_at_29 : decode cX6_at 29 = .ok (.aload_n 3, 1) := by decide +kernel
theorem dX6_at_30 : decode cX6_at 30 = .ok (.iload_n 2, 1) := by decide +kernel
theorem dX6_at_31 : decode cX6_at 31 = .ok (.invokevirtual 86, 3) := by decide +kernel
theorem dX6_at_34 : decode cX6_at 34 = .ok (.ifCond .ne 9, 3) := by decide +kernel
theorem dX6_at_37 : decode cX6_at 37 = .ok (.aload_n 0, 1) := by decide +kernel
theorem dX6_at_38 : decode cX6_at 38 = .ok (.iconst 2, 1) := by decide +kernel
theorem dX6_at_39 : decode cX6_at 39 = .ok (.invokevirtual 74, 3) := by decide +kernel
theorem dX6_at_42 : decode cX6_at 42 = .ok (.ireturn, 1) := by decide +kernel
theorem dX6_at_43 : decode cX6_at 43 = .ok (.aload_n 0, 1) := by decide +kernel
theorem dX6_at_44 : decode cX6_at 44 = .ok (.aload_n 3, 1) := by decide +kernel
theorem dX6_at_45 : decode cX6_at 45 = .ok (.getfield 89, 3) := by decide +kernel
theorem dX6_at_48 : decode cX6_at 48 = .ok (.iload_n 2, 1) := by decide +kernel
theorem dX6_at_49 : decode cX6_at 49 = .ok (.iaload, 1) := by decide +kernel
theorem dX6_at_50 : decode cX6_at 50 = .ok (.putfield 52, 3) := by decide +kernel
theorem dX6_at_53 : decode cX6_at 53 = .ok (.iconst 1, 1) := by decide +kernel
theorem dX6_at_54 : decode cX6_at 54 = .ok (.ireturn, 1) := by decide +kernel
def F_X6_at (n : Nat) (S : aSt) (a0 : Nat) (a1 : Int32) (a2 : Int32) : Option (Int32 × aSt) :=
(F_X6_isRow n S a1).bind fun r1 =>
if r1 = 0 then (some ((-1 : Int32), S)) else
rfd (S.2.2 a0 0) 9 fun k10 =>
grd (inb a1 (SH k10).2) <|
rfd (S.2.2 k10 a1.toNatClampNeg) 3 fun k14 =>
(F_X4_isThere n S k14).bind fun r17 =>
if r17 = 0 then (bn2 (F_X6_found n S a0 (1 : Int32)) fun r25 S25 =>
some (r25, S25)) else
(F_X4_reaches n S k14 a2).bind fun r31 =>
if r31 = 0 then (bn2 (F_X6_found n S a0 (2 : Int32)) fun r39 S39 =>
some (r39, S39)) else
rfd (S.2.2 k14 0) 7 fun k45 =>
grd (inb a2 (SH k45).2) <|
nm (stI S a0 8 (S.1 k45 a2.toNatClampNeg)) fun S50 =>
some ((1 : Int32), S50)
set_option maxHeartbeats 4000000 in
set_option maxRecDepth 100000 in
theorem C_X6_at (G : aG) (l : Launch) (n : Nat) (S : aSt) (a0 : Nat) (a1 : Int32) (a2 : Int32) (r : Int32) (Sr : aSt) (ha0 : isT a0 5 = true) (hf : F_X6_at n S a0 a1 a2 = some (r, Sr)) : Ctr G l yX6_at mX6_at (rmM 2) 97 97 S [.ref a0, .int a1, .int a2] (some (.int r)) Sr := by
  refine Ctr.of (by decide) rfl rfl (Nat.le_of_ble_eq_true rfl) [(0, .ref a0), (1, .int a1), (2, .int a2)] rfl ?_
  unfold F_X6_at at hf
  refine Go.iload_n 1 1 rfl dX6_at_0 rfl ?_
  obtain ⟨r1, er1, hf⟩ := f_bnd hf
  refine Go.cS 4 [.int a1] [] (C_X6_isRow G l n S a1 r1  er1) rfl dX6_at_1 cx_X6_70 (by decide) (by decide) rfl (Nat.le_of_ble_eq_true rfl) ?_
  refine Go.if_ne 9 7 rfl dX6_at_4 rfl (fun hc => ?_) (fun hc => ?_)
  · replace hf := f_el hf hc
    refine Go.aload_n 0 10 rfl dX6_at_9 rfl ?_
    obtain ⟨k10, qk10, hk10, hf⟩ := f_rfd hf
    refine Go.getR 13 rfl dX6_at_10 fl_X6_11 rfl (isT_lt ha0) (isT_sh ha0) qk10 ?_
    refine Go.iload_n 1 14 rfl dX6_at_13 rfl ?_
    obtain ⟨g14, hf⟩ := f_grd hf
    obtain ⟨k14, qk14, hk14, hf⟩ := f_rfd hf
    refine Go.aaldR 15 rfl dX6_at_14 (isT_lt hk10) (isT_sh hk10) g14 qk14 ?_
    refine Go.astore_n 16 [(3, .ref k14), (0, .ref a0), (1, .int a1), (2, .int a2)] rfl dX6_at_15 (by decide) rfl ?_
    refine Go.aload_n 0 17 rfl dX6_at_16 rfl ?_
    obtain ⟨r17, er17, hf⟩ := f_bnd hf
    refine Go.cV 20 [] [] (C_X4_isThere G l n S k14 r17 hk14 er17) rfl dX6_at_17 cv_X6_82 hk14 (by decide) (by decide) rfl (Nat.le_of_ble_eq_true rfl) ?_
    refine Go.if_ne 29 23 rfl dX6_at_20 rfl (fun hc => ?_) (fun hc => ?_)
    · replace hf := f_el hf hc
      refine Go.aload_n 0 30 rfl dX6_at_29 rfl ?_
      refine Go.iload_n 3 31 rfl dX6_at_30 rfl ?_
      obtain ⟨r31, er31, hf⟩ := f_bnd hf
      refine Go.cV 34 [.int a2] [] (C_X4_reaches G l n S k14 a2 r31 hk14 er31) rfl dX6_at_31 cv_X6_86 hk14 (by decide) (by decide) rfl (Nat.le_of_ble_eq_true rfl) ?_
      refine Go.if_ne 43 37 rfl dX6_at_34 rfl (fun hc => ?_) (fun hc => ?_)
      · replace hf := f_el hf hc
        refine Go.aload_n 1 44 rfl dX6_at_43 rfl ?_
        refine Go.aload_n 0 45 rfl dX6_at_44 rfl ?_
        obtain ⟨k45, qk45, hk45, hf⟩ := f_rfd hf
        refine Go.getR 48 rfl dX6_at_45 fl_X6_89 rfl (isT_lt hk14) (isT_sh hk14) qk45 ?_
        refine Go.iload_n 3 49 rfl dX6_at_48 rfl ?_
        obtain ⟨g49, hf⟩ := f_grd hf
        refine Go.iald 50 rfl dX6_at_49 (isT_lt hk45) (isT_sh hk45) g49 ?_
        obtain ⟨S50, eS50, hf⟩ := f_nm hf
        refine Go.putI 53 rfl dX6_at_50 fp_X6_52 rfl (isT_lt ha0) (isT_sh ha0) (fun h => by cases h) (Go.stt S50 eS50 ?_)
        refine Go.iconst (1 : Int32) 54 rfl dX6_at_53 ci_1 ?_
        exact Go.irS rfl dX6_at_54 hf
      · replace hf := f_if hf hc
        refine Go.aload_n 1 38 rfl dX6_at_37 rfl ?_
        refine Go.iconst (2 : Int32) 39 rfl dX6_at_38 ci_2 ?_
        obtain ⟨r39, S39, er39, hf⟩ := f_bn2 hf
        refine Go.cV 42 [.int (2 : Int32)] [] (C_X6_found G l n S a0 (2 : Int32) r39 S39 ha0 er39) rfl dX6_at_39 cv_X6_74 ha0 (by decide) (by decide) rfl (Nat.le_of_ble_eq_true rfl) ?_
        exact Go.irS rfl dX6_at_42 hf
    · replace hf := f_if hf hc
      refine Go.aload_n 1 24 rfl dX6_at_23 rfl ?_
      refine Go.iconst (1 : Int32) 25 rfl dX6_at_24 ci_1 ?_
      obtain ⟨r25, S25, er25, hf⟩ := f_bn2 hf
      refine Go.cV 28 [.int (1 : Int32)] [] (C_X6_found G l n S a0 (1 : Int32) r25 S25 ha0 er25) rfl dX6_at_25 cv_X6_74 ha0 (by decide) (by decide) rfl (Nat.le_of_ble_eq_true rfl) ?_
      exact Go.irS rfl dX6_at_28 hf
  · replace hf := f_if hf hc
    refine Go.iconst (-1 : Int32) 8 rfl dX6_at_7 ci_m1 ?_
    exact Go.irS rfl dX6_at_8 hf
theorem dX6_tear_0 : decode cX6_tear 0 = .ok (.iload_n 1, 1) := by decide +kernel
theorem dX6_tear_1 : decode cX6_tear 1 = .ok (.invokestatic 70, 3) := by decide +kernel
theorem dX6_tear_4 : decode cX6_tear 4 = .ok (.ifCond .ne 5, 3) := by decide +kernel
theorem dX6_tear_7 : decode cX6_tear 7 = .ok (.iconst (-1), 1) := by decide +kernel
theorem dX6_tear_8 : decode cX6_tear 8 = .ok (.ireturn, 1) := by decide +kernel
theorem dX6_tear_9 : decode cX6_tear 9 = .ok (.aload_n 0, 1) := by decide +kernel
theorem dX6_tear_10 : decode cX6_tear 10 = .ok (.getfield 11, 3) := by decide +kernel
theorem dX6_tear_13 : decode cX6_tear 13 = .ok (.iload_n 1, 1) := by decide +kernel
theorem dX6_tear_14 : decode cX6_tear 14 = .ok (.aaload, 1) := by decide +kernel
theorem dX6_tear_15 : decode cX6_tear 15 = .ok (.invokevirtual 82, 3) := by decide +kernel
theorem dX6_tear_18 : decode cX6_tear 18 = .ok (.ifCond .ne 9, 3) := by decide +kernel
theorem dX6_tear_21 : decode cX6_tear 21 = .ok (.aload_n 0, 1) := by decide +kernel
theorem dX6_tear_22 : decode cX6_tear 22 = .ok (.iconst 1, 1) := by decide +kernel
theorem dX6_tear_23 : decode cX6_tear 23 = .ok (.invokevirtual 74, 3) := by decide +kernel
theorem dX6_tear_26 : decode cX6_tear 26 = .ok (.ireturn, 1) := by decide +kernel
theorem dX6_tear_27 : decode cX6_tear 27 = .ok (.aload_n 0, 1) := by decide +kernel
theorem dX6_tear_28 : decode cX6_tear 28 = .ok (.getfield 11, 3) := by decide +kernel
theorem dX6_tear_31 : decode cX6_tear 31 = .ok (.iload_n 1, 1) := by decide +kernel
theorem dX6_tear_32 : decode cX6_tear 32 = .ok (.aaload, 1) := by decide +kernel
theorem dX6_tear_33 : decode cX6_tear 33 = .ok (.iconst (-1), 1) := by decide +kernel
theorem dX6_tear_34 : decode cX6_tear 34 = .ok (.putfield 92, 3) := by decide +kernel
theorem dX6_tear_37 : decode cX6_tear 37 = .ok (.iconst 1, 1) := by decide +kernel
theorem dX6_tear_38 : decode cX6_tear 38 = .ok (.ireturn, 1) := by decide +kernel
def F_X6_tear (n : Nat) (S : aSt) (a0 : Nat) (a1 : Int32) : Option (Int32 × aSt) :=
(F_X6_isRow n S a1).bind fun r1 =>
if r1 = 0 then (some ((-1 : Int32), S)) else
rfd (S.2.2 a0 0) 9 fun k10 =>
grd (inb a1 (SH k10).2) <|
rfd (S.2.2 k10 a1.toNatClampNeg) 3 fun k14 =>
(F_X4_isThere n S k14).bind fun r15 =>
if r15 = 0 then (bn2 (F_X6_found n S a0 (1 : Int32)) fun r23 S23 =>
some (r23, S23)) else
grd (inb a1 (SH k10).2) <|
rfd (S.2.2 k10 a1.toNatClampNeg) 3 fun k32 =>
nm (stI S k32 1 (-1 : Int32)) fun S34 =>
some ((1 : Int32), S34)
set_option maxHeartbeats 4000000 in
set_option maxRecDepth 100000 in
theorem C_X6_tear (G : aG) (l : Launch) (n : Nat) (S : aSt) (a0 : Nat) (a1 : Int32) (r : Int32) (Sr : aSt) (ha0 : isT a0 5 = true) (hf : F_X6_tear n S a0 a1 = some (r, Sr)) : Ctr G l yX6_tear mX6_tear (rmM 2) 97 97 S [.ref a0, .int a1] (some (.int r)) Sr := by
  refine Ctr.of (by decide) rfl rfl (Nat.le_of_ble_eq_true rfl) [(0, .ref a0), (1, .int a1)] rfl ?_
  unfold F_X6_tear at hf
  refine Go.iload_n 1 1 rfl dX6_tear_0 rfl ?_
  obtain ⟨r1, er1, hf⟩ := f_bnd hf
  refine Go.cS 4 [.int a1] [] (C_X6_isRow G l n S a1 r1  er1) rfl dX6_tear_1 cx_X6_70 (by decide) (by decide) rfl (Nat.le_of_ble_eq_true rfl) ?_
  refine Go.if_ne 9 7 rfl dX6_tear_4 rfl (fun hc => ?_) (fun hc => ?_)
  · replace hf := f_el hf hc
    refine Go.aload_n 0 10 rfl dX6_tear_9 rfl ?_
    obtain ⟨k10, qk10, hk10, hf⟩ := f_rfd hf
    refine Go.getR 13 rfl dX6_tear_10 fl_X6_11 rfl (isT_lt ha0) (isT_sh ha0) qk10 ?_
    refine Go.iload_n 1 14 rfl dX6_tear_13 rfl ?_
    obtain ⟨g14, hf⟩ := f_grd hf
    obtain ⟨k14, qk14, hk14, hf⟩ := f_rfd hf
    refine Go.aaldR 15 rfl dX6_tear_14 (isT_lt hk10) (isT_sh hk10) g14 qk14 ?_
    obtain ⟨r15, er15, hf⟩ := f_bnd hf
    refine Go.cV 18 [] [] (C_X4_isThere G l n S k14 r15 hk14 er15) rfl dX6_tear_15 cv_X6_82 hk14 (by decide) (by decide) rfl (Nat.le_of_ble_eq_true rfl) ?_
    refine Go.if_ne 27 21 rfl dX6_tear_18 rfl (fun hc => ?_) (fun hc => ?_)
    · replace hf := f_el hf hc
      refine Go.aload_n 0 28 rfl dX6_tear_27 rfl ?_
      refine Go.getR 31 rfl dX6_tear_28 fl_X6_11 rfl (isT_lt ha0) (isT_sh ha0) qk10 ?_
      refine Go.iload_n 1 32 rfl dX6_tear_31 rfl ?_
      obtain ⟨g32, hf⟩ := f_grd hf
      obtain ⟨k32, qk32, hk32, hf⟩ := f_rfd hf
      refine Go.aaldR 33 rfl dX6_tear_32 (isT_lt hk10) (isT_sh hk10) g32 qk32 ?_
      refine Go.iconst (-1 : Int32) 34 rfl dX6_tear_33 ci_m1 ?_
      obtain ⟨S34, eS34, hf⟩ := f_nm hf
      refine Go.putI 37 rfl dX6_tear_34 fp_X6_92 rfl (isT_lt hk32) (isT_sh hk32) (fun h => by cases h) (Go.stt S34 eS34 ?_)
      refine Go.iconst (1 : Int32) 38 rfl dX6_tear_37 ci_1 ?_
      exact Go.irS rfl dX6_tear_38 hf
    · replace hf := f_if hf hc
      refine Go.aload_n 0 22 rfl dX6_tear_21 rfl ?_
      refine Go.iconst (1 : Int32) 23 rfl dX6_tear_22 ci_1 ?_
      obtain ⟨r23, S23, er23, hf⟩ := f_bn2 hf
      refine Go.cV 26 [.int (1 : Int32)] [] (C_X6_found G l n S a0 (1 : Int32) r23 S23 ha0 er23) rfl dX6_tear_23 cv_X6_74 ha0 (by decide) (by decide) rfl (Nat.le_of_ble_eq_true rfl) ?_
      exact Go.irS rfl dX6_tear_26 hf
  · replace hf := f_if hf hc
    refine Go.iconst (-1 : Int32) 8 rfl dX6_tear_7 ci_m1 ?_
    exact Go.irS rfl dX6_tear_8 hf
theorem dX6_copy_0 : decode cX6_copy 0 = .ok (.iload_n 1, 1) := by decide +kernel
theorem dX6_copy_1 : decode cX6_copy 1 = .ok (.invokestatic 70, 3) := by decide +kernel
theorem dX6_copy_4 : decode cX6_copy 4 = .ok (.ifCond .eq 10, 3) := by decide +kernel
theorem dX6_copy_7 : decode cX6_copy 7 = .ok (.iload_n 3, 1) := by decide +kernel
theorem dX6_copy_8 : decode cX6_copy 8 = .ok (.invokestatic 70, 3) := by decide +kernel
theorem dX6_copy_11 : decode cX6_copy 11 = .ok (.ifCond .ne 5, 3) := by decide +kernel
theorem dX6_copy_14 : decode cX6_copy 14 = .ok (.iconst (-1), 1) := by decide +kernel
theorem dX6_copy_15 : decode cX6_copy 15 = .ok (.ireturn, 1) := by decide +kernel
theorem dX6_copy_16 : decode cX6_copy 16 = .ok (.iload 5, 2) := by decide +kernel
theorem dX6_copy_18 : decode cX6_copy 18 = .ok (.ifCond .ge 9, 3) := by decide +kernel
theorem dX6_copy_21 : decode cX6_copy 21 = .ok (.aload_n 0, 1) := by decide +kernel
theorem dX6_copy_22 : decode cX6_copy 22 = .ok (.iconst 5, 1) := by decide +kernel
theorem dX6_copy_23 : decode cX6_copy 23 = .ok (.invokevirtual 74, 3) := by decide +kernel
theorem dX6_copy_26 : decode cX6_copy 26 = .ok (.ireturn, 1) := by decide +kernel
theorem dX6_copy_27 : decode cX6_copy 27 = .ok (.aload_n 0, 1) := by decide +kernel
theorem dX6_copy_28 : decode cX6_copy 28 = .ok (.getfield 11, 3) := by decide +kernel
theorem dX6_copy_31 : decode cX6_copy 31 = .ok (.iload_n 1, 1) := by decide +kernel
theorem dX6_copy_32 : decode cX6_copy 32 = .ok (.aaload, 1) := by decide +kernel
theorem dX6_copy_33 : decode cX6_copy 33 = .ok (.invokevirtual 82, 3) := by decide +kernel
theorem dX6_copy_36 : decode cX6_copy 36 = .ok (.ifCond .eq 15, 3) := by decide +kernel
theorem dX6_copy_39 : decode cX6_copy 39 = .ok (.aload_n 0, 1) := by decide +kernel
theorem dX6_copy_40 : decode cX6_copy 40 = .ok (.getfield 11, 3) := by decide +kernel
theorem dX6_copy_43 : decode cX6_copy 43 = .ok (.iload_n 3, 1) := by decide +kernel
theorem dX6_copy_44 : decode cX6_copy 44 = .ok (.aaload, 1) := by decide +kernel
theorem dX6_copy_45 : decode cX6_copy 45 = .ok (.invokevirtual 82, 3) := by decide +kernel
theorem dX6_copy_48 : decode cX6_copy 48 = .ok (.ifCond .ne 9, 3) := by decide +kernel
theorem dX6_copy_51 : decode cX6_copy 51 = .ok (.aload_n 0, 1) := by decide +kernel
theorem dX6_copy_52 : decode cX6_copy 52 = .ok (.iconst 1, 1) := by decide +kernel
theorem dX6_copy_53 : decode cX6_copy 53 = .ok (.invokevirtual 74, 3) := by decide +kernel
theorem dX6_copy_56 : decode cX6_copy 56 = .ok (.ireturn, 1) := by decide +kernel
theorem dX6_copy_57 : decode cX6_copy 57 = .ok (.aload_n 0, 1) := by decide +kernel
theorem dX6_copy_58 : decode cX6_copy 58 = .ok (.getfield 11, 3) := by decide +kernel
theorem dX6_copy_61 : decode cX6_copy 61 = .ok (.iload_n 1, 1) := by decide +kernel
theorem dX6_copy_62 : decode cX6_copy 62 = .ok (.aaload, 1) := by decide +kernel
theorem dX6_copy_63 : decode cX6_copy 63 = .ok (.iload_n 2, 1) := by decide +kernel
theorem dX6_copy_64 : decode cX6_copy 64 = .ok (.iload 5, 2) := by decide +kernel
theorem dX6_copy_66 : decode cX6_copy 66 = .ok (.invokevirtual 95, 3) := by decide +kernel
theorem dX6_copy_69 : decode cX6_copy 69 = .ok (.ifCond .eq 19, 3) := by decide +kernel
theorem dX6_copy_72 : decode cX6_copy 72 = .ok (.aload_n 0, 1) := by decide +kernel
theorem dX6_copy_73 : decode cX6_copy 73 = .ok (.getfield 11, 3) := by decide +kernel
theorem dX6_copy_76 : decode cX6_copy 76 = .ok (.iload_n 3, 1) := by decide +kernel
theorem dX6_copy_77 : decode cX6_copy 77 = .ok (.aaload, 1) := by decide +kernel
theorem dX6_copy_78 : decode cX6_copy 78 = .ok (.iload 4, 2) := by decide +kernel
theorem dX6_copy_80 : decode cX6_copy 80 = .ok (.iload 5, 2) := by decide +kernel
theorem dX6_copy_82 : decode cX6_copy 82 = .ok (.invokevirtual 95, 3) := by decide +kernel
theorem dX6_copy_85 : decode cX6_copy 85 = .ok (.ifCond .ne 9, 3) := by decide +kernel
theorem dX6_copy_88 : decode cX6_copy 88 = .ok (.aload_n 0, 1) := by decide +kernel
theorem dX6_copy_89 : decode cX6_copy 89 = .ok (.iconst 2, 1) := by decide +kernel
theorem dX6_copy_90 : decode cX6_copy 90 = .ok (.invokevirtual 74, 3) := by decide +kernel
theorem dX6_copy_93 : decode cX6_copy 93 = .ok (.ireturn, 1) := by decide +kernel
theorem dX6_copy_94 : decode cX6_copy 94 = .ok (.aload_n 0, 1) := by decide +kernel
theorem dX6_copy_95 : decode cX6_copy 95 = .ok (.getfield 11, 3) := by decide +kernel
theorem dX6_copy_98 : decode cX6_copy 98 = .ok (.iload_n 1, 1) := by decide +kernel
theorem dX6_copy_99 : decode cX6_copy 99 = .ok (.aaload, 1) := by decide +kernel
theorem dX6_copy_100 : decode cX6_copy 100 = .ok (.getfield 89, 3) := by decide +kernel
theorem dX6_copy_103 : decode cX6_copy 103 = .ok (.iload_n 2, 1) := by decide +kernel
theorem dX6_copy_104 : decode cX6_copy 104 = .ok (.aload_n 0, 1) := by decide +kernel
theorem dX6_copy_105 : decode cX6_copy 105 = .ok (.getfield 11, 3) := by decide +kernel
theorem dX6_copy_108 : decode cX6_copy 108 = .ok (.iload_n 3, 1) := by decide +kernel
theorem dX6_copy_109 : decode cX6_copy 109 = .ok (.aaload, 1) := by decide +kernel
theorem dX6_copy_110 : decode cX6_copy 110 = .ok (.getfield 89, 3) := by decide +kernel
theorem dX6_copy_113 : decode cX6_copy 113 = .ok (.iload 4, 2) := by decide +kernel
theorem dX6_copy_115 : decode cX6_copy 115 = .ok (.iload 5, 2) := by decide +kernel
theorem dX6_copy_117 : decode cX6_copy 117 = .ok (.invokestatic 99, 3) := by decide +kernel
theorem dX6_copy_120 : decode cX6_copy 120 = .ok (.iconst 1, 1) := by decide +kernel
theorem dX6_copy_121 : decode cX6_copy 121 = .ok (.ireturn, 1) := by decide +kernel
def F_X6_copy (n : Nat) (S : aSt) (a0 : Nat) (a1 : Int32) (a2 : Int32) (a3 : Int32) (a4 : Int32) (a5 : Int32) : Option (Int32 × aSt) :=
(F_X6_isRow n S a1).bind fun r1 =>
if r1 = 0 then (some ((-1 : Int32), S)) else
(F_X6_isRow n S a3).bind fun r8 =>
if r8 = 0 then (some ((-1 : Int32), S)) else
if 0 ≤ a5 then (rfd (S.2.2 a0 0) 9 fun k28 =>
grd (inb a1 (SH k28).2) <|
rfd (S.2.2 k28 a1.toNatClampNeg) 3 fun k32 =>
(F_X4_isThere n S k32).bind fun r33 =>
jn (fun (j51S : aSt) => (bn2 (F_X6_found n j51S a0 (1 : Int32)) fun r53 S53 =>
some (r53, S53) : Option (Int32 × aSt))) fun K51 =>
if r33 = 0 then (K51 S) else
grd (inb a3 (SH k28).2) <|
rfd (S.2.2 k28 a3.toNatClampNeg) 3 fun k44 =>
(F_X4_isThere n S k44).bind fun r45 =>
if r45 = 0 then (K51 S) else
grd (inb a1 (SH k28).2) <|
rfd (S.2.2 k28 a1.toNatClampNeg) 3 fun k62 =>
(F_X4_holds n S k62 a2 a5).bind fun r66 =>
jn (fun (j88S : aSt) => (bn2 (F_X6_found n j88S a0 (2 : Int32)) fun r90 S90 =>
some (r90, S90) : Option (Int32 × aSt))) fun K88 =>
if r66 = 0 then (K88 S) else
grd (inb a3 (SH k28).2) <|
rfd (S.2.2 k28 a3.toNatClampNeg) 3 fun k77 =>
(F_X4_holds n S k77 a4 a5).bind fun r82 =>
if r82 = 0 then (K88 S) else
grd (inb a1 (SH k28).2) <|
rfd (S.2.2 k28 a1.toNatClampNeg) 3 fun k99 =>
rfd (S.2.2 k99 0) 7 fun k100 =>
grd (inb a3 (SH k28).2) <|
rfd (S.2.2 k28 a3.toNatClampNeg) 3 fun k109 =>
rfd (S.2.2 k109 0) 7 fun k110 =>
grd (cpok a2 a4 a5 (SH k100).2 (SH k110).2) <|
nm (stRow S k110 (va_cpy (S.1 k100) (S.1 k110) a2.toNatClampNeg a4.toNatClampNeg a5.toNatClampNeg)) fun S117 =>
some ((1 : Int32), S117)) else
bn2 (F_X6_found n S a0 (5 : Int32)) fun r23 S23 =>
some (r23, S23)
set_option maxHeartbeats 4000000 in
set_option maxRecDepth 100000 in
theorem C_X6_copy (G : aG) (l : Launch) (n : Nat) (S : aSt) (a0 : Nat) (a1 : Int32) (a2 : Int32) (a3 : Int32) (a4 : Int32) (a5 : Int32) (r : Int32) (Sr : aSt) (ha0 : isT a0 5 = true) (hf : F_X6_copy n S a0 a1 a2 a3 a4 a5 = some (r, Sr)) : Ctr G l yX6_copy mX6_copy (rmM 2) 97 97 S [.ref a0, .int a1, .int a2, .int a3, .int a4, .int a5] (some (.int r)) Sr := by
  refine Ctr.of (by decide) rfl rfl (Nat.le_of_ble_eq_true rfl) [(0, .ref a0), (1, .int a1), (2, .int a2), (3, .int a3), (4, .int a4), (5, .int a5)] rfl ?_
  unfold F_X6_copy at hf
  refine Go.iload_n 1 1 rfl dX6_copy_0 rfl ?_
  obtain ⟨r1, er1, hf⟩ := f_bnd hf
  refine Go.cS 4 [.int a1] [] (C_X6_isRow G l n S a1 r1  er1) rfl dX6_copy_1 cx_X6_70 (by decide) (by decide) rfl (Nat.le_of_ble_eq_true rfl) ?_
  refine Go.if_eq 14 7 rfl dX6_copy_4 rfl (fun hc => ?_) (fun hc => ?_)
  · replace hf := f_if hf hc
    refine Go.iconst (-1 : Int32) 15 rfl dX6_copy_14 ci_m1 ?_
    exact Go.irS rfl dX6_copy_15 hf
  · replace hf := f_el hf hc
    refine Go.iload_n 3 8 rfl dX6_copy_7 rfl ?_
    obtain ⟨r8, er8, hf⟩ := f_bnd hf
    refine Go.cS 11 [.int a3] [] (C_X6_isRow G l n S a3 r8  er8) rfl dX6_copy_8 cx_X6_70 (by decide) (by decide) rfl (Nat.le_of_ble_eq_true rfl) ?_
    refine Go.if_ne 16 14 rfl dX6_copy_11 rfl (fun hc => ?_) (fun hc => ?_)
    · replace hf := f_el hf hc
      refine Go.iload 5 18 rfl dX6_copy_16 rfl ?_
      refine Go.if_ge 27 21 rfl dX6_copy_18 rfl (fun hc => ?_) (fun hc => ?_)
      · replace hf := f_if hf hc
        refine Go.aload_n 0 28 rfl dX6_copy_27 rfl ?_
        obtain ⟨k28, qk28, hk28, hf⟩ := f_rfd hf
        refine Go.getR 31 rfl dX6_copy_28 fl_X6_11 rfl (isT_lt ha0) (isT_sh ha0) qk28 ?_
        refine Go.iload_n 1 32 rfl dX6_copy_31 rfl ?_
        obtain ⟨g32, hf⟩ := f_grd hf
        obtain ⟨k32, qk32, hk32, hf⟩ := f_rfd hf
        refine Go.aaldR 33 rfl dX6_copy_32 (isT_lt hk28) (isT_sh hk28) g32 qk32 ?_
        obtain ⟨r33, er33, hf⟩ := f_bnd hf
        refine Go.cV 36 [] [] (C_X4_isThere G l n S k32 r33 hk32 er33) rfl dX6_copy_33 cv_X6_82 hk32 (by decide) (by decide) rfl (Nat.le_of_ble_eq_true rfl) ?_
        obtain ⟨K51, eK51, hf⟩ := f_jn hf
        have J51 : ∀ (j51S : aSt), K51 j51S = some (r, Sr) → GoM G l 2 (TmR G (some (.int r)) 97 Sr 0 0) mX6_copy 51 [(0, .ref a0)] [] j51S := by
          intro j51S hf
          rw [eK51] at hf
          refine Go.aload_n 0 52 rfl dX6_copy_51 rfl ?_
          refine Go.iconst (1 : Int32) 53 rfl dX6_copy_52 ci_1 ?_
          obtain ⟨r53, S53, er53, hf⟩ := f_bn2 hf
          refine Go.cV 56 [.int (1 : Int32)] [] (C_X6_found G l n j51S a0 (1 : Int32) r53 S53 ha0 er53) rfl dX6_copy_53 cv_X6_74 ha0 (by decide) (by decide) rfl (Nat.le_of_ble_eq_true rfl) ?_
          exact Go.irS rfl dX6_copy_56 hf
        clear eK51
        refine Go.if_eq 51 39 rfl dX6_copy_36 rfl (fun hc => ?_) (fun hc => ?_)
        · replace hf := f_if hf hc
          exact Go.sub [0] [(0, .ref a0)] rfl (J51 S hf)
        · replace hf := f_el hf hc
          refine Go.aload_n 0 40 rfl dX6_copy_39 rfl ?_
          refine Go.getR 43 rfl dX6_copy_40 fl_X6_11 rfl (isT_lt ha0) (isT_sh ha0) qk28 ?_
          refine Go.iload_n 3 44 rfl dX6_copy_43 rfl ?_
          obtain ⟨g44, hf⟩ := f_grd hf
          obtain ⟨k44, qk44, hk44, hf⟩ := f_rfd hf
          refine Go.aaldR 45 rfl dX6_copy_44 (isT_lt hk28) (isT_sh hk28) g44 qk44 ?_
          obtain ⟨r45, er45, hf⟩ := f_bnd hf
          refine Go.cV 48 [] [] (C_X4_isThere G l n S k44 r45 hk44 er45) rfl dX6_copy_45 cv_X6_82 hk44 (by decide) (by decide) rfl (Nat.le_of_ble_eq_true rfl) ?_
          refine Go.if_ne 57 51 rfl dX6_copy_48 rfl (fun hc => ?_) (fun hc => ?_)
          · replace hf := f_el hf hc
            refine Go.aload_n 0 58 rfl dX6_copy_57 rfl ?_
            refine Go.getR 61 rfl dX6_copy_58 fl_X6_11 rfl (isT_lt ha0) (isT_sh ha0) qk28 ?_
            refine Go.iload_n 1 62 rfl dX6_copy_61 rfl ?_
            obtain ⟨g62, hf⟩ := f_grd hf
            obtain ⟨k62, qk62, hk62, hf⟩ := f_rfd hf
            refine Go.aaldR 63 rfl dX6_copy_62 (isT_lt hk28) (isT_sh hk28) g62 qk62 ?_
            refine Go.iload_n 2 64 rfl dX6_copy_63 rfl ?_
            refine Go.iload 5 66 rfl dX6_copy_64 rfl ?_
            obtain ⟨r66, er66, hf⟩ := f_bnd hf
            refine Go.cV 69 [.int a2, .int a5] [] (C_X4_holds G l n S k62 a2 a5 r66 hk62 er66) rfl dX6_copy_66 cv_X6_95 hk62 (by decide) (by decide) rfl (Nat.le_of_ble_eq_true rfl) ?_
            obtain ⟨K88, eK88, hf⟩ := f_jn hf
            have J88 : ∀ (j88S : aSt), K88 j88S = some (r, Sr) → GoM G l 2 (TmR G (some (.int r)) 97 Sr 0 0) mX6_copy 88 [(0, .ref a0)] [] j88S := by
              intro j88S hf
              rw [eK88] at hf
              refine Go.aload_n 0 89 rfl dX6_copy_88 rfl ?_
              refine Go.iconst (2 : Int32) 90 rfl dX6_copy_89 ci_2 ?_
              obtain ⟨r90, S90, er90, hf⟩ := f_bn2 hf
              refine Go.cV 93 [.int (2 : Int32)] [] (C_X6_found G l n j88S a0 (2 : Int32) r90 S90 ha0 er90) rfl dX6_copy_90 cv_X6_74 ha0 (by decide) (by decide) rfl (Nat.le_of_ble_eq_true rfl) ?_
              exact Go.irS rfl dX6_copy_93 hf
            clear eK88
            refine Go.if_eq 88 72 rfl dX6_copy_69 rfl (fun hc => ?_) (fun hc => ?_)
            · replace hf := f_if hf hc
              exact Go.sub [0] [(0, .ref a0)] rfl (J88 S hf)
            · replace hf := f_el hf hc
              refine Go.aload_n 0 73 rfl dX6_copy_72 rfl ?_
              refine Go.getR 76 rfl dX6_copy_73 fl_X6_11 rfl (isT_lt ha0) (isT_sh ha0) qk28 ?_
              refine Go.iload_n 3 77 rfl dX6_copy_76 rfl ?_
              obtain ⟨g77, hf⟩ := f_grd hf
              obtain ⟨k77, qk77, hk77, hf⟩ := f_rfd hf
              refine Go.aaldR 78 rfl dX6_copy_77 (isT_lt hk28) (isT_sh hk28) g77 qk77 ?_
              refine Go.iload 4 80 rfl dX6_copy_78 rfl ?_
              refine Go.iload 5 82 rfl dX6_copy_80 rfl ?_
              obtain ⟨r82, er82, hf⟩ := f_bnd hf
              refine Go.cV 85 [.int a4, .int a5] [] (C_X4_holds G l n S k77 a4 a5 r82 hk77 er82) rfl dX6_copy_82 cv_X6_95 hk77 (by decide) (by decide) rfl (Nat.le_of_ble_eq_true rfl) ?_
              refine Go.if_ne 94 88 rfl dX6_copy_85 rfl (fun hc => ?_) (fun hc => ?_)
              · replace hf := f_el hf hc
                refine Go.aload_n 0 95 rfl dX6_copy_94 rfl ?_
                refine Go.getR 98 rfl dX6_copy_95 fl_X6_11 rfl (isT_lt ha0) (isT_sh ha0) qk28 ?_
                refine Go.iload_n 1 99 rfl dX6_copy_98 rfl ?_
                obtain ⟨g99, hf⟩ := f_grd hf
                obtain ⟨k99, qk99, hk99, hf⟩ := f_rfd hf
                refine Go.aaldR 100 rfl dX6_copy_99 (isT_lt hk28) (isT_sh hk28) g99 qk99 ?_
                obtain ⟨k100, qk100, hk100, hf⟩ := f_rfd hf
                refine Go.getR 103 rfl dX6_copy_100 fl_X6_89 rfl (isT_lt hk99) (isT_sh hk99) qk100 ?_
                refine Go.iload_n 2 104 rfl dX6_copy_103 rfl ?_
                refine Go.aload_n 0 105 rfl dX6_copy_104 rfl ?_
                refine Go.getR 108 rfl dX6_copy_105 fl_X6_11 rfl (isT_lt ha0) (isT_sh ha0) qk28 ?_
                refine Go.iload_n 3 109 rfl dX6_copy_108 rfl ?_
                obtain ⟨g109, hf⟩ := f_grd hf
                obtain ⟨k109, qk109, hk109, hf⟩ := f_rfd hf
                refine Go.aaldR 110 rfl dX6_copy_109 (isT_lt hk28) (isT_sh hk28) g109 qk109 ?_
                obtain ⟨k110, qk110, hk110, hf⟩ := f_rfd hf
                refine Go.getR 113 rfl dX6_copy_110 fl_X6_89 rfl (isT_lt hk109) (isT_sh hk109) qk110 ?_
                refine Go.iload 4 115 rfl dX6_copy_113 rfl ?_
                refine Go.iload 5 117 rfl dX6_copy_115 rfl ?_
                obtain ⟨g117, hf⟩ := f_grd hf
                obtain ⟨S117, eS117, hf⟩ := f_nm hf
                refine Go.acpy 120 rfl dX6_copy_117 (am_mem 335 (by decide +kernel) rfl) (am_mem 337 (by decide +kernel) rfl) (am_mem 336 (by decide +kernel) rfl) (am_mem 61 (by decide +kernel) rfl) (isT_lt hk100) (isT_sh hk100) (isT_lt hk110) (isT_sh hk110) g117 (by decide) (by decide) (Go.stt S117 eS117 ?_)
                refine Go.iconst (1 : Int32) 121 rfl dX6_copy_120 ci_1 ?_
                exact Go.irS rfl dX6_copy_121 hf
              · replace hf := f_if hf hc
                exact Go.sub [0] [(0, .ref a0)] rfl (J88 S hf)
          · replace hf := f_if hf hc
            exact Go.sub [0] [(0, .ref a0)] rfl (J51 S hf)
      · replace hf := f_el hf hc
        refine Go.aload_n 0 22 rfl dX6_copy_21 rfl ?_
        refine Go.iconst (5 : Int32) 23 rfl dX6_copy_22 ci_5 ?_
        obtain ⟨r23, S23, er23, hf⟩ := f_bn2 hf
        refine Go.cV 26 [.int (5 : Int32)] [] (C_X6_found G l n S a0 (5 : Int32) r23 S23 ha0 er23) rfl dX6_copy_23 cv_X6_74 ha0 (by decide) (by decide) rfl (Nat.le_of_ble_eq_true rfl) ?_
        exact Go.irS rfl dX6_copy_26 hf
    · replace hf := f_if hf hc
      refine Go.iconst (-1 : Int32) 15 rfl dX6_copy_14 ci_m1 ?_
      exact Go.irS rfl dX6_copy_15 hf
theorem dX6_mean_0 : decode cX6_mean 0 = .ok (.iload_n 1, 1) := by decide +kernel
theorem dX6_mean_1 : decode cX6_mean 1 = .ok (.invokestatic 70, 3) := by decide +kernel
theorem dX6_mean_4 : decode cX6_mean 4 = .ok (.ifCond .ne 5, 3) := by decide +kernel
theorem dX6_mean_7 : decode cX6_mean 7 = .ok (.iconst (-1), 1) := by decide +kernel
theorem dX6_mean_8 : decode cX6_mean 8 = .ok (.ireturn, 1) := by decide +kernel
theorem dX6_mean_9 : decode cX6_mean 9 = .ok (.aload_n 0, 1) := by decide +kernel
theorem dX6_mean_10 : decode cX6_mean 10 = .ok (.getfield 11, 3) := by decide +kernel
theorem dX6_mean_13 : decode cX6_mean 13 = .ok (.iload_n 1, 1) := by decide +kernel
theorem dX6_mean_14 : decode cX6_mean 14 = .ok (.aaload, 1) := by decide +kernel
theorem dX6_mean_15 : decode cX6_mean 15 = .ok (.astore_n 2, 1) := by decide +kernel
theorem dX6_mean_16 : decode cX6_mean 16 = .ok (.aload_n 2, 1) := by decide +kernel
theorem dX6_mean_17 : decode cX6_mean 17 = .ok (.invokevirtual 82, 3) := by decide +kernel
theorem dX6_mean_20 : decode cX6_mean 20 = .ok (.ifCond .ne 9, 3) := by decide +kernel
theorem dX6_mean_23 : decode cX6_mean 23 = .ok (.aload_n 0, 1) := by decide +kernel
theorem dX6_mean_24 : decode cX6_mean 24 = .ok (.iconst 1, 1) := by decide +kernel
theorem dX6_mean_25 : decode cX6_mean 25 = .ok (.invokevirtual 74, 3) := by decide +kernel
theorem dX6_mean_28 : decode cX6_mean 28 = .ok (.ireturn, 1) := by decide +kernel
theorem dX6_mean_29 : decode cX6_mean 29 = .ok (.aload_n 2, 1) := by decide +kernel
theorem dX6_mean_30 : decode cX6_mean 30 = .ok (.getfield 92, 3) := by decide +kernel
theorem dX6_mean_33 : decode cX6_mean 33 = .ok (.ifCond .ne 9, 3) := by decide +kernel
theorem dX6_mean_36 : decode cX6_mean 36 = .ok (.aload_n 0, 1) := by decide +kernel
theorem dX6_mean_37 : decode cX6_mean 37 = .ok (.iconst 4, 1) := by decide +kernel
theorem dX6_mean_38 : decode cX6_mean 38 = .ok (.invokevirtual 74, 3) := by decide +kernel
theorem dX6_mean_41 : decode cX6_mean 41 = .ok (.ireturn, 1) := by decide +kernel
theorem dX6_mean_42 : decode cX6_mean 42 = .ok (.lconst 0, 1) := by decide +kernel
theorem dX6_mean_43 : decode cX6_mean 43 = .ok (.lstore_n 3, 1) := by decide +kernel
theorem dX6_mean_44 : decode cX6_mean 44 = .ok (.iconst 0, 1) := by decide +kernel
theorem dX6_mean_45 : decode cX6_mean 45 = .ok (.istore 5, 2) := by decide +kernel
theorem dX6_mean_47 : decode cX6_mean 47 = .ok (.iload 5, 2) := by decide +kernel
theorem dX6_mean_49 : decode cX6_mean 49 = .ok (.aload_n 2, 1) := by decide +kernel
theorem dX6_mean_50 : decode cX6_mean 50 = .ok (.getfield 92, 3) := by decide +kernel
theorem dX6_mean_53 : decode cX6_mean 53 = .ok (.if_icmp .ge 20, 3) := by decide +kernel
theorem dX6_mean_56 : decode cX6_mean 56 = .ok (.lload_n 3, 1) := by decide +kernel
theorem dX6_mean_57 : decode cX6_mean 57 = .ok (.aload_n 2, 1) := by decide +kernel
theorem dX6_mean_58 : decode cX6_mean 58 = .ok (.getfield 89, 3) := by decide +kernel
theorem dX6_mean_61 : decode cX6_mean 61 = .ok (.iload 5, 2) := by decide +kernel
theorem dX6_mean_63 : decode cX6_mean 63 = .ok (.iaload, 1) := by decide +kernel
theorem dX6_mean_64 : decode cX6_mean 64 = .ok (.i2l, 1) := by decide +kernel
theorem dX6_mean_65 : decode cX6_mean 65 = .ok (.ladd, 1) := by decide +kernel
theorem dX6_mean_66 : decode cX6_mean 66 = .ok (.lstore_n 3, 1) := by decide +kernel
theorem dX6_mean_67 : decode cX6_mean 67 = .ok (.iinc 5 1, 3) := by decide +kernel
theorem dX6_mean_70 : decode cX6_mean 70 = .ok (.goto (-23), 3) := by decide +kernel
theorem dX6_mean_73 : decode cX6_mean 73 = .ok (.aload_n 0, 1) := by decide +kernel
theorem dX6_mean_74 : decode cX6_mean 74 = .ok (.lload_n 3, 1) := by decide +kernel
theorem dX6_mean_75 : decode cX6_mean 75 = .ok (.aload_n 2, 1) := by decide +kernel
theorem dX6_mean_76 : decode cX6_mean 76 = .ok (.getfield 92, 3) := by decide +kernel
theorem dX6_mean_79 : decode cX6_mean 79 = .ok (.i2l, 1) := by decide +kernel
theorem dX6_mean_80 : decode cX6_mean 80 = .ok (.ldiv, 1) := by decide +kernel
theorem dX6_mean_81 : decode cX6_mean 81 = .ok (.l2i, 1) := by decide +kernel
theorem dX6_mean_82 : decode cX6_mean 82 = .ok (.putfield 52, 3) := by decide +kernel
theorem dX6_mean_85 : decode cX6_mean 85 = .ok (.iconst 1, 1) := by decide +kernel
theorem dX6_mean_86 : decode cX6_mean 86 = .ok (.ireturn, 1) := by decide +kernel
def F_X6_mean_L47 (S : aSt) (k14 : Nat) (K73 : Int64 → Option (Int32 × aSt)) : Nat → Int64 → Int32 → Option (Int32 × aSt)
  | 0, _, _ => none
  | fu + 1, l47_3, l47_5 =>
    if (S.1 k14 1) ≤ l47_5 then (K73 l47_3) else
    rfd (S.2.2 k14 0) 7 fun k58 =>
    grd (inb l47_5 (SH k58).2) <|
    nm (l47_3 + (S.1 k58 l47_5.toNatClampNeg).toInt64) fun v66 =>
    F_X6_mean_L47 S k14 K73 fu v66 (l47_5 + (1 : Int32))
def F_X6_mean (n : Nat) (S : aSt) (a0 : Nat) (a1 : Int32) : Option (Int32 × aSt) :=
(F_X6_isRow n S a1).bind fun r1 =>
if r1 = 0 then (some ((-1 : Int32), S)) else
rfd (S.2.2 a0 0) 9 fun k10 =>
grd (inb a1 (SH k10).2) <|
rfd (S.2.2 k10 a1.toNatClampNeg) 3 fun k14 =>
(F_X4_isThere n S k14).bind fun r17 =>
if r17 = 0 then (bn2 (F_X6_found n S a0 (1 : Int32)) fun r25 S25 =>
some (r25, S25)) else
if (S.1 k14 1) = 0 then (bn2 (F_X6_found n S a0 (4 : Int32)) fun r38 S38 =>
some (r38, S38)) else
jn (fun (x73_3 : Int64) => (grd (!decide ((S.1 k14 1).toInt64 = 0)) <|
nm (stI S a0 8 (x73_3 / (S.1 k14 1).toInt64).toInt32) fun S82 =>
some ((1 : Int32), S82) : Option (Int32 × aSt))) fun K73 =>
F_X6_mean_L47 S k14 K73 n (0 : Int64) (0 : Int32)
set_option maxHeartbeats 4000000 in
set_option maxRecDepth 100000 in
theorem C_X6_mean (G : aG) (l : Launch) (n : Nat) (S : aSt) (a0 : Nat) (a1 : Int32) (r : Int32) (Sr : aSt) (ha0 : isT a0 5 = true) (hf : F_X6_mean n S a0 a1 = some (r, Sr)) : Ctr G l yX6_mean mX6_mean (rmM 2) 97 97 S [.ref a0, .int a1] (some (.int r)) Sr := by
  refine Ctr.of (by decide) rfl rfl (Nat.le_of_ble_eq_true rfl) [(0, .ref a0), (1, .int a1)] rfl ?_
  unfold F_X6_mean at hf
  refine Go.iload_n 1 1 rfl dX6_mean_0 rfl ?_
  obtain ⟨r1, er1, hf⟩ := f_bnd hf
  refine Go.cS 4 [.int a1] [] (C_X6_isRow G l n S a1 r1  er1) rfl dX6_mean_1 cx_X6_70 (by decide) (by decide) rfl (Nat.le_of_ble_eq_true rfl) ?_
  refine Go.if_ne 9 7 rfl dX6_mean_4 rfl (fun hc => ?_) (fun hc => ?_)
  · replace hf := f_el hf hc
    refine Go.aload_n 0 10 rfl dX6_mean_9 rfl ?_
    obtain ⟨k10, qk10, hk10, hf⟩ := f_rfd hf
    refine Go.getR 13 rfl dX6_mean_10 fl_X6_11 rfl (isT_lt ha0) (isT_sh ha0) qk10 ?_
    refine Go.iload_n 1 14 rfl dX6_mean_13 rfl ?_
    obtain ⟨g14, hf⟩ := f_grd hf
    obtain ⟨k14, qk14, hk14, hf⟩ := f_rfd hf
    refine Go.aaldR 15 rfl dX6_mean_14 (isT_lt hk10) (isT_sh hk10) g14 qk14 ?_
    refine Go.astore_n 16 [(2, .ref k14), (0, .ref a0), (1, .int a1)] rfl dX6_mean_15 (by decide) rfl ?_
    refine Go.aload_n 0 17 rfl dX6_mean_16 rfl ?_
    obtain ⟨r17, er17, hf⟩ := f_bnd hf
    refine Go.cV 20 [] [] (C_X4_isThere G l n S k14 r17 hk14 er17) rfl dX6_mean_17 cv_X6_82 hk14 (by decide) (by decide) rfl (Nat.le_of_ble_eq_true rfl) ?_
    refine Go.if_ne 29 23 rfl dX6_mean_20 rfl (fun hc => ?_) (fun hc => ?_)
    · replace hf := f_el hf hc
      refine Go.aload_n 0 30 rfl dX6_mean_29 rfl ?_
      refine Go.getI 33 rfl dX6_mean_30 fl_X6_92 rfl (isT_lt hk14) (isT_sh hk14) ?_
      refine Go.if_ne 42 36 rfl dX6_mean_33 rfl (fun hc => ?_) (fun hc => ?_)
      · replace hf := f_el hf hc
        refine Go.lconst (0 : Int64) 43 rfl dX6_mean_42 cl_0 ?_
        refine Go.lstore_n 44 [(3, .long (0 : Int64)), (2, .ref k14), (0, .ref a0), (1, .int a1)] rfl dX6_mean_43 (by decide) rfl ?_
        refine Go.iconst (0 : Int32) 45 rfl dX6_mean_44 ci_0 ?_
        refine Go.istore 47 [(5, .int (0 : Int32)), (3, .long (0 : Int64)), (2, .ref k14), (0, .ref a0), (1, .int a1)] rfl dX6_mean_45 (by decide) rfl ?_
        obtain ⟨K73, eK73, hf⟩ := f_jn hf
        have J73 : ∀ (x73_3 : Int64), K73 x73_3 = some (r, Sr) → GoM G l 2 (TmR G (some (.int r)) 97 Sr 0 0) mX6_mean 73 [(0, .ref a0), (2, .ref k14), (3, .long x73_3)] [] S := by
          intro x73_3 hf
          rw [eK73] at hf
          refine Go.aload_n 0 74 rfl dX6_mean_73 rfl ?_
          refine Go.lload_n 2 75 rfl dX6_mean_74 rfl ?_
          refine Go.aload_n 1 76 rfl dX6_mean_75 rfl ?_
          refine Go.getI 79 rfl dX6_mean_76 fl_X6_92 rfl (isT_lt hk14) (isT_sh hk14) ?_
          refine Go.i2l 80 rfl dX6_mean_79 ?_
          obtain ⟨g80, hf⟩ := f_grd hf
          refine Go.ldiv 81 rfl dX6_mean_80 (by simpa using g80) ?_
          refine Go.l2i 82 rfl dX6_mean_81 ?_
          obtain ⟨S82, eS82, hf⟩ := f_nm hf
          refine Go.putI 85 rfl dX6_mean_82 fp_X6_52 rfl (isT_lt ha0) (isT_sh ha0) (fun h => by cases h) (Go.stt S82 eS82 ?_)
          refine Go.iconst (1 : Int32) 86 rfl dX6_mean_85 ci_1 ?_
          exact Go.irS rfl dX6_mean_86 hf
        clear eK73
        have L47 : ∀ (fu : Nat) (l47_3 : Int64) (l47_5 : Int32), F_X6_mean_L47 S k14 K73 fu l47_3 l47_5 = some (r, Sr) → GoM G l 2 (TmR G (some (.int r)) 97 Sr 0 0) mX6_mean 47 [(0, .ref a0), (2, .ref k14), (3, .long l47_3), (5, .int l47_5)] [] S := by
          intro fu
          induction fu with
          | zero => intro l47_3 l47_5 hf; rw [F_X6_mean_L47] at hf; cases hf
          | succ fu ih =>
            intro l47_3 l47_5 hf
            rw [F_X6_mean_L47] at hf
            refine Go.iload 3 49 rfl dX6_mean_47 rfl ?_
            refine Go.aload_n 1 50 rfl dX6_mean_49 rfl ?_
            refine Go.getI 53 rfl dX6_mean_50 fl_X6_92 rfl (isT_lt hk14) (isT_sh hk14) ?_
            refine Go.icmp_ge 73 56 rfl dX6_mean_53 rfl (fun hc => ?_) (fun hc => ?_)
            · replace hf := f_if hf hc
              exact Go.sub [0, 1, 2] [(0, .ref a0), (2, .ref k14), (3, .long l47_3)] rfl (J73 l47_3 hf)
            · replace hf := f_el hf hc
              refine Go.lload_n 2 57 rfl dX6_mean_56 rfl ?_
              refine Go.aload_n 1 58 rfl dX6_mean_57 rfl ?_
              obtain ⟨k58, qk58, hk58, hf⟩ := f_rfd hf
              refine Go.getR 61 rfl dX6_mean_58 fl_X6_89 rfl (isT_lt hk14) (isT_sh hk14) qk58 ?_
              refine Go.iload 3 63 rfl dX6_mean_61 rfl ?_
              obtain ⟨g63, hf⟩ := f_grd hf
              refine Go.iald 64 rfl dX6_mean_63 (isT_lt hk58) (isT_sh hk58) g63 ?_
              refine Go.i2l 65 rfl dX6_mean_64 ?_
              refine Go.ladd 66 rfl dX6_mean_65 ?_
              obtain ⟨v66, ev66, hf⟩ := f_nm hf
              refine Go.topl v66 ev66 ?_
              refine Go.lstore_n 67 [(3, .long v66), (0, .ref a0), (2, .ref k14), (5, .int l47_5)] rfl dX6_mean_66 (by decide) rfl ?_
              refine Go.inc 3 70 (1 : Int32) [(5, .int (l47_5 + (1 : Int32))), (3, .long v66), (0, .ref a0), (2, .ref k14)] rfl dX6_mean_67 rfl ci_1 (by decide) rfl ?_
              refine Go.goto 47 dX6_mean_70 rfl ?_
              exact Go.sub [2, 3, 1, 0] [(0, .ref a0), (2, .ref k14), (3, .long v66), (5, .int (l47_5 + (1 : Int32)))] rfl (ih v66 (l47_5 + (1 : Int32)) hf)
        exact Go.sub [3, 2, 1, 0] [(0, .ref a0), (2, .ref k14), (3, .long (0 : Int64)), (5, .int (0 : Int32))] rfl (L47 n (0 : Int64) (0 : Int32) hf)
      · replace hf := f_if hf hc
        refine Go.aload_n 1 37 rfl dX6_mean_36 rfl ?_
        refine Go.iconst (4 : Int32) 38 rfl dX6_mean_37 ci_4 ?_
        obtain ⟨r38, S38, er38, hf⟩ := f_bn2 hf
        refine Go.cV 41 [.int (4 : Int32)] [] (C_X6_found G l n S a0 (4 : Int32) r38 S38 ha0 er38) rfl dX6_mean_38 cv_X6_74 ha0 (by decide) (by decide) rfl (Nat.le_of_ble_eq_true rfl) ?_
        exact Go.irS rfl dX6_mean_41 hf
    · replace hf := f_if hf hc
      refine Go.aload_n 1 24 rfl dX6_mean_23 rfl ?_
      refine Go.iconst (1 : Int32) 25 rfl dX6_mean_24 ci_1 ?_
      obtain ⟨r25, S25, er25, hf⟩ := f_bn2 hf
      refine Go.cV 28 [.int (1 : Int32)] [] (C_X6_found G l n S a0 (1 : Int32) r25 S25 ha0 er25) rfl dX6_mean_25 cv_X6_74 ha0 (by decide) (by decide) rfl (Nat.le_of_ble_eq_true rfl) ?_
      exact Go.irS rfl dX6_mean_28 hf
  · replace hf := f_if hf hc
    refine Go.iconst (-1 : Int32) 8 rfl dX6_mean_7 ci_m1 ?_
    exact Go.irS rfl dX6_mean_8 hf
theorem dX6_isText_0 : decode cX6_isText 0 = .ok (.iload_n 0, 1) := by decide +kernel
theorem dX6_isText_1 : decode cX6_isText 1 = .ok (.ifCond .lt 12, 3) := by decide +kernel
theorem dX6_isText_4 : decode cX6_isText 4 = .ok (.iload_n 0, 1) := by decide +kernel
theorem dX6_isText_5 : decode cX6_isText 5 = .ok (.iconst 4, 1) := by decide +kernel
theorem dX6_isText_6 : decode cX6_isText 6 = .ok (.if_icmp .ge 7, 3) := by decide +kernel
theorem dX6_isText_9 : decode cX6_isText 9 = .ok (.iconst 1, 1) := by decide +kernel
theorem dX6_isText_10 : decode cX6_isText 10 = .ok (.goto 4, 3) := by decide +kernel
theorem dX6_isText_13 : decode cX6_isText 13 = .ok (.iconst 0, 1) := by decide +kernel
theorem dX6_isText_14 : decode cX6_isText 14 = .ok (.ireturn, 1) := by decide +kernel
def F_X6_isText (n : Nat) (S : aSt) (a0 : Int32) : Option Int32 :=
if a0 < 0 then (some (0 : Int32)) else
if (4 : Int32) ≤ a0 then (some (0 : Int32)) else
some (1 : Int32)
set_option maxHeartbeats 4000000 in
set_option maxRecDepth 100000 in
theorem C_X6_isText (G : aG) (l : Launch) (n : Nat) (S : aSt) (a0 : Int32) (r : Int32)  (hf : F_X6_isText n S a0 = some r) : Ctr G l yX6_isText mX6_isText (rmM 1) 97 97 S [.int a0] (some (.int r)) S := by
  refine Ctr.of (by decide) rfl rfl (Nat.le_of_ble_eq_true rfl) [(0, .int a0)] rfl ?_
  unfold F_X6_isText at hf
  refine Go.iload_n 0 1 rfl dX6_isText_0 rfl ?_
  refine Go.if_lt 13 4 rfl dX6_isText_1 rfl (fun hc => ?_) (fun hc => ?_)
  · replace hf := f_if hf hc
    refine Go.iconst (0 : Int32) 14 rfl dX6_isText_13 ci_0 ?_
    exact Go.zr rfl (Or.inl rfl) dX6_isText_14 hf
  · replace hf := f_el hf hc
    refine Go.iload_n 0 5 rfl dX6_isText_4 rfl ?_
    refine Go.iconst (4 : Int32) 6 rfl dX6_isText_5 ci_4 ?_
    refine Go.icmp_ge 13 9 rfl dX6_isText_6 rfl (fun hc => ?_) (fun hc => ?_)
    · replace hf := f_if hf hc
      refine Go.iconst (0 : Int32) 14 rfl dX6_isText_13 ci_0 ?_
      exact Go.zr rfl (Or.inl rfl) dX6_isText_14 hf
    · replace hf := f_el hf hc
      refine Go.iconst (1 : Int32) 10 rfl dX6_isText_9 ci_1 ?_
      refine Go.goto 14 dX6_isText_10 rfl ?_
      exact Go.zr rfl (Or.inr rfl) dX6_isText_14 hf
theorem dX6_text_0 : decode cX6_text 0 = .ok (.iload_n 1, 1) := by decide +kernel
theorem dX6_text_1 : decode cX6_text 1 = .ok (.invokestatic 105, 3) := by decide +kernel
theorem dX6_text_4 : decode cX6_text 4 = .ok (.ifCond .eq 9, 3) := by decide +kernel
theorem dX6_text_7 : decode cX6_text 7 = .ok (.iload_n 2, 1) := by decide +kernel
theorem dX6_text_8 : decode cX6_text 8 = .ok (.bipush 80, 2) := by decide +kernel
theorem dX6_text_10 : decode cX6_text 10 = .ok (.if_icmp .le 5, 3) := by decide +kernel
theorem dX6_text_13 : decode cX6_text 13 = .ok (.iconst (-1), 1) := by decide +kernel
theorem dX6_text_14 : decode cX6_text 14 = .ok (.ireturn, 1) := by decide +kernel
theorem dX6_text_15 : decode cX6_text 15 = .ok (.iload_n 2, 1) := by decide +kernel
theorem dX6_text_16 : decode cX6_text 16 = .ok (.ifCond .ge 9, 3) := by decide +kernel
theorem dX6_text_19 : decode cX6_text 19 = .ok (.aload_n 0, 1) := by decide +kernel
theorem dX6_text_20 : decode cX6_text 20 = .ok (.iconst 5, 1) := by decide +kernel
theorem dX6_text_21 : decode cX6_text 21 = .ok (.invokevirtual 74, 3) := by decide +kernel
theorem dX6_text_24 : decode cX6_text 24 = .ok (.ireturn, 1) := by decide +kernel
theorem dX6_text_25 : decode cX6_text 25 = .ok (.aload_n 0, 1) := by decide +kernel
theorem dX6_text_26 : decode cX6_text 26 = .ok (.getfield 15, 3) := by decide +kernel
theorem dX6_text_29 : decode cX6_text 29 = .ok (.iload_n 1, 1) := by decide +kernel
theorem dX6_text_30 : decode cX6_text 30 = .ok (.aaload, 1) := by decide +kernel
theorem dX6_text_31 : decode cX6_text 31 = .ok (.iload_n 2, 1) := by decide +kernel
theorem dX6_text_32 : decode cX6_text 32 = .ok (.bipush 32, 2) := by decide +kernel
theorem dX6_text_34 : decode cX6_text 34 = .ok (.invokevirtual 78, 3) := by decide +kernel
theorem dX6_text_37 : decode cX6_text 37 = .ok (.iload_n 2, 1) := by decide +kernel
theorem dX6_text_38 : decode cX6_text 38 = .ok (.ireturn, 1) := by decide +kernel
def F_X6_text (n : Nat) (S : aSt) (a0 : Nat) (a1 : Int32) (a2 : Int32) : Option (Int32 × aSt) :=
(F_X6_isText n S a1).bind fun r1 =>
if r1 = 0 then (some ((-1 : Int32), S)) else
if a2 ≤ (80 : Int32) then (if 0 ≤ a2 then (rfd (S.2.2 a0 1) 9 fun k26 =>
grd (inb a1 (SH k26).2) <|
rfd (S.2.2 k26 a1.toNatClampNeg) 3 fun k30 =>
(F_X4_begin n S k30 a2 (32 : Int32)).bind fun S34 =>
some (a2, S34)) else
bn2 (F_X6_found n S a0 (5 : Int32)) fun r21 S21 =>
some (r21, S21)) else
some ((-1 : Int32), S)
set_option maxHeartbeats 4000000 in
set_option maxRecDepth 100000 in
theorem C_X6_text (G : aG) (l : Launch) (n : Nat) (S : aSt) (a0 : Nat) (a1 : Int32) (a2 : Int32) (r : Int32) (Sr : aSt) (ha0 : isT a0 5 = true) (hf : F_X6_text n S a0 a1 a2 = some (r, Sr)) : Ctr G l yX6_text mX6_text (rmM 3) 97 97 S [.ref a0, .int a1, .int a2] (some (.int r)) Sr := by
  refine Ctr.of (by decide) rfl rfl (Nat.le_of_ble_eq_true rfl) [(0, .ref a0), (1, .int a1), (2, .int a2)] rfl ?_
  unfold F_X6_text at hf
  refine Go.iload_n 1 1 rfl dX6_text_0 rfl ?_
  obtain ⟨r1, er1, hf⟩ := f_bnd hf
  refine Go.cS 4 [.int a1] [] (C_X6_isText G l n S a1 r1  er1) rfl dX6_text_1 cx_X6_105 (by decide) (by decide) rfl (Nat.le_of_ble_eq_true rfl) ?_
  refine Go.if_eq 13 7 rfl dX6_text_4 rfl (fun hc => ?_) (fun hc => ?_)
  · replace hf := f_if hf hc
    refine Go.iconst (-1 : Int32) 14 rfl dX6_text_13 ci_m1 ?_
    exact Go.irS rfl dX6_text_14 hf
  · replace hf := f_el hf hc
    refine Go.iload_n 2 8 rfl dX6_text_7 rfl ?_
    refine Go.bipush (80 : Int32) 10 rfl dX6_text_8 cb_80 ?_
    refine Go.icmp_le 15 13 rfl dX6_text_10 rfl (fun hc => ?_) (fun hc => ?_)
    · replace hf := f_if hf hc
      refine Go.iload_n 2 16 rfl dX6_text_15 rfl ?_
      refine Go.if_ge 25 19 rfl dX6_text_16 rfl (fun hc => ?_) (fun hc => ?_)
      · replace hf := f_if hf hc
        refine Go.aload_n 0 26 rfl dX6_text_25 rfl ?_
        obtain ⟨k26, qk26, hk26, hf⟩ := f_rfd hf
        refine Go.getR 29 rfl dX6_text_26 fl_X6_15 rfl (isT_lt ha0) (isT_sh ha0) qk26 ?_
        refine Go.iload_n 1 30 rfl dX6_text_29 rfl ?_
        obtain ⟨g30, hf⟩ := f_grd hf
        obtain ⟨k30, qk30, hk30, hf⟩ := f_rfd hf
        refine Go.aaldR 31 rfl dX6_text_30 (isT_lt hk26) (isT_sh hk26) g30 qk30 ?_
        refine Go.iload_n 2 32 rfl dX6_text_31 rfl ?_
        refine Go.bipush (32 : Int32) 34 rfl dX6_text_32 cb_32 ?_
        obtain ⟨S34, eS34, hf⟩ := f_bnd hf
        refine Go.cVv 37 [.int a2, .int (32 : Int32)] [] (C_X4_begin G l n S k30 a2 (32 : Int32) S34 hk30 eS34) rfl dX6_text_34 cv_X6_78 hk30 (by decide) (by decide) rfl (Nat.le_of_ble_eq_true rfl) ?_
        refine Go.iload_n 2 38 rfl dX6_text_37 rfl ?_
        exact Go.irS rfl dX6_text_38 hf
      · replace hf := f_el hf hc
        refine Go.aload_n 0 20 rfl dX6_text_19 rfl ?_
        refine Go.iconst (5 : Int32) 21 rfl dX6_text_20 ci_5 ?_
        obtain ⟨r21, S21, er21, hf⟩ := f_bn2 hf
        refine Go.cV 24 [.int (5 : Int32)] [] (C_X6_found G l n S a0 (5 : Int32) r21 S21 ha0 er21) rfl dX6_text_21 cv_X6_74 ha0 (by decide) (by decide) rfl (Nat.le_of_ble_eq_true rfl) ?_
        exact Go.irS rfl dX6_text_24 hf
    · replace hf := f_el hf hc
      refine Go.iconst (-1 : Int32) 14 rfl dX6_text_13 ci_m1 ?_
      exact Go.irS rfl dX6_text_14 hf
theorem dX6_put_0 : decode cX6_put 0 = .ok (.iload_n 1, 1) := by decide +kernel
theorem dX6_put_1 : decode cX6_put 1 = .ok (.invokestatic 105, 3) := by decide +kernel
theorem dX6_put_4 : decode cX6_put 4 = .ok (.ifCond .ne 5, 3) := by decide +kernel
theorem dX6_put_7 : decode cX6_put 7 = .ok (.iconst (-1), 1) := by decide +kernel
theorem dX6_put_8 : decode cX6_put 8 = .ok (.ireturn, 1) := by decide +kernel
theorem dX6_put_9 : decode cX6_put 9 = .ok (.aload_n 0, 1) := by decide +kernel
theorem dX6_put_10 : decode cX6_put 10 = .ok (.getfield 15, 3) := by decide +kernel
theorem dX6_put_13 : decode cX6_put 13 = .ok (.iload_n 1, 1) := by decide +kernel
theorem dX6_put_14 : decode cX6_put 14 = .ok (.aaload, 1) := by decide +kernel
theorem dX6_put_15 : decode cX6_put 15 = .ok (.astore 4, 2) := by decide +kernel
theorem dX6_put_17 : decode cX6_put 17 = .ok (.aload 4, 2) := by decide +kernel
theorem dX6_put_19 : decode cX6_put 19 = .ok (.invokevirtual 82, 3) := by decide +kernel
theorem dX6_put_22 : decode cX6_put 22 = .ok (.ifCond .ne 9, 3) := by decide +kernel
theorem dX6_put_25 : decode cX6_put 25 = .ok (.aload_n 0, 1) := by decide +kernel
theorem dX6_put_26 : decode cX6_put 26 = .ok (.iconst 1, 1) := by decide +kernel
theorem dX6_put_27 : decode cX6_put 27 = .ok (.invokevirtual 74, 3) := by decide +kernel
theorem dX6_put_30 : decode cX6_put 30 = .ok (.ireturn, 1) := by decide +kernel
theorem dX6_put_31 : decode cX6_put 31 = .ok (.aload 4, 2) := by decide +kernel
theorem dX6_put_33 : decode cX6_put 33 = .ok (.iload_n 2, 1) := by decide +kernel
theorem dX6_put_34 : decode cX6_put 34 = .ok (.invokevirtual 86, 3) := by decide +kernel
theorem dX6_put_37 : decode cX6_put 37 = .ok (.ifCond .ne 9, 3) := by decide +kernel
theorem dX6_put_40 : decode cX6_put 40 = .ok (.aload_n 0, 1) := by decide +kernel
theorem dX6_put_41 : decode cX6_put 41 = .ok (.iconst 2, 1) := by decide +kernel
theorem dX6_put_42 : decode cX6_put 42 = .ok (.invokevirtual 74, 3) := by decide +kernel
theorem dX6_put_45 : decode cX6_put 45 = .ok (.ireturn, 1) := by decide +kernel
theorem dX6_put_46 : decode cX6_put 46 = .ok (.aload 4, 2) := by decide +kernel
theorem dX6_put_48 : decode cX6_put 48 = .ok (.getfield 89, 3) := by decide +kernel
theorem dX6_put_51 : decode cX6_put 51 = .ok (.iload_n 2, 1) := by decide +kernel
theorem dX6_put_52 : decode cX6_put 52 = .ok (.iaload, 1) := by decide +kernel
theorem dX6_put_53 : decode cX6_put 53 = .ok (.istore 5, 2) := by decide +kernel
theorem dX6_put_55 : decode cX6_put 55 = .ok (.aload 4, 2) := by decide +kernel
theorem dX6_put_57 : decode cX6_put 57 = .ok (.getfield 89, 3) := by decide +kernel
theorem dX6_put_60 : decode cX6_put 60 = .ok (.iload_n 2, 1) := by decide +kernel
theorem dX6_put_61 : decode cX6_put 61 = .ok (.iload_n 3, 1) := by decide +kernel
theorem dX6_put_62 : decode cX6_put 62 = .ok (.i2b, 1) := by decide +kernel
theorem dX6_put_63 : decode cX6_put 63 = .ok (.iastore, 1) := by decide +kernel
theorem dX6_put_64 : decode cX6_put 64 = .ok (.iload 5, 2) := by decide +kernel
theorem dX6_put_66 : decode cX6_put 66 = .ok (.sipush 1000, 3) := by decide +kernel
theorem dX6_put_69 : decode cX6_put 69 = .ok (.iadd, 1) := by decide +kernel
theorem dX6_put_70 : decode cX6_put 70 = .ok (.ireturn, 1) := by decide +kernel
def F_X6_put (n : Nat) (S : aSt) (a0 : Nat) (a1 : Int32) (a2 : Int32) (a3 : Int32) : Option (Int32 × aSt) :=
(F_X6_isText n S a1).bind fun r1 =>
if r1 = 0 then (some ((-1 : Int32), S)) else
rfd (S.2.2 a0 1) 9 fun k10 =>
grd (inb a1 (SH k10).2) <|
rfd (S.2.2 k10 a1.toNatClampNeg) 3 fun k14 =>
(F_X4_isThere n S k14).bind fun r19 =>
if r19 = 0 then (bn2 (F_X6_found n S a0 (1 : Int32)) fun r27 S27 =>
some (r27, S27)) else
(F_X4_reaches n S k14 a2).bind fun r34 =>
if r34 = 0 then (bn2 (F_X6_found n S a0 (2 : Int32)) fun r42 S42 =>
some (r42, S42)) else
rfd (S.2.2 k14 0) 7 fun k48 =>
grd (inb a2 (SH k48).2) <|
nm (S.1 k48 a2.toNatClampNeg) fun v53 =>
grd (inb a2 (SH k48).2) <|
nm (stI S k48 a2.toNatClampNeg a3.toInt8.toInt32) fun S63 =>
some ((v53 + (1000 : Int32)), S63)
set_option maxHeartbeats 4000000 in
set_option maxRecDepth 100000 in
theorem C_X6_put (G : aG) (l : Launch) (n : Nat) (S : aSt) (a0 : Nat) (a1 : Int32) (a2 : Int32) (a3 : Int32) (r : Int32) (Sr : aSt) (ha0 : isT a0 5 = true) (hf : F_X6_put n S a0 a1 a2 a3 = some (r, Sr)) : Ctr G l yX6_put mX6_put (rmM 2) 97 97 S [.ref a0, .int a1, .int a2, .int a3] (some (.int r)) Sr := by
  refine Ctr.of (by decide) rfl rfl (Nat.le_of_ble_eq_true rfl) [(0, .ref a0), (1, .int a1), (2, .int a2), (3, .int a3)] rfl ?_
  unfold F_X6_put at hf
  refine Go.iload_n 1 1 rfl dX6_put_0 rfl ?_
  obtain ⟨r1, er1, hf⟩ := f_bnd hf
  refine Go.cS 4 [.int a1] [] (C_X6_isText G l n S a1 r1  er1) rfl dX6_put_1 cx_X6_105 (by decide) (by decide) rfl (Nat.le_of_ble_eq_true rfl) ?_
  refine Go.if_ne 9 7 rfl dX6_put_4 rfl (fun hc => ?_) (fun hc => ?_)
  · replace hf := f_el hf hc
    refine Go.aload_n 0 10 rfl dX6_put_9 rfl ?_
    obtain ⟨k10, qk10, hk10, hf⟩ := f_rfd hf
    refine Go.getR 13 rfl dX6_put_10 fl_X6_15 rfl (isT_lt ha0) (isT_sh ha0) qk10 ?_
    refine Go.iload_n 1 14 rfl dX6_put_13 rfl ?_
    obtain ⟨g14, hf⟩ := f_grd hf
    obtain ⟨k14, qk14, hk14, hf⟩ := f_rfd hf
    refine Go.aaldR 15 rfl dX6_put_14 (isT_lt hk10) (isT_sh hk10) g14 qk14 ?_
    refine Go.astore 17 [(4, .ref k14), (0, .ref a0), (1, .int a1), (2, .int a2), (3, .int a3)] rfl dX6_put_15 (by decide) rfl ?_
    refine Go.aload 0 19 rfl dX6_put_17 rfl ?_
    obtain ⟨r19, er19, hf⟩ := f_bnd hf
    refine Go.cV 22 [] [] (C_X4_isThere G l n S k14 r19 hk14 er19) rfl dX6_put_19 cv_X6_82 hk14 (by decide) (by decide) rfl (Nat.le_of_ble_eq_true rfl) ?_
    refine Go.if_ne 31 25 rfl dX6_put_22 rfl (fun hc => ?_) (fun hc => ?_)
    · replace hf := f_el hf hc
      refine Go.aload 0 33 rfl dX6_put_31 rfl ?_
      refine Go.iload_n 3 34 rfl dX6_put_33 rfl ?_
      obtain ⟨r34, er34, hf⟩ := f_bnd hf
      refine Go.cV 37 [.int a2] [] (C_X4_reaches G l n S k14 a2 r34 hk14 er34) rfl dX6_put_34 cv_X6_86 hk14 (by decide) (by decide) rfl (Nat.le_of_ble_eq_true rfl) ?_
      refine Go.if_ne 46 40 rfl dX6_put_37 rfl (fun hc => ?_) (fun hc => ?_)
      · replace hf := f_el hf hc
        refine Go.aload 0 48 rfl dX6_put_46 rfl ?_
        obtain ⟨k48, qk48, hk48, hf⟩ := f_rfd hf
        refine Go.getR 51 rfl dX6_put_48 fl_X6_89 rfl (isT_lt hk14) (isT_sh hk14) qk48 ?_
        refine Go.iload_n 3 52 rfl dX6_put_51 rfl ?_
        obtain ⟨g52, hf⟩ := f_grd hf
        refine Go.iald 53 rfl dX6_put_52 (isT_lt hk48) (isT_sh hk48) g52 ?_
        obtain ⟨v53, ev53, hf⟩ := f_nm hf
        refine Go.topi v53 ev53 ?_
        refine Go.istore 55 [(5, .int v53), (4, .ref k14), (0, .ref a0), (1, .int a1), (2, .int a2), (3, .int a3)] rfl dX6_put_53 (by decide) rfl ?_
        refine Go.aload 1 57 rfl dX6_put_55 rfl ?_
        refine Go.getR 60 rfl dX6_put_57 fl_X6_89 rfl (isT_lt hk14) (isT_sh hk14) qk48 ?_
        refine Go.iload_n 4 61 rfl dX6_put_60 rfl ?_
        refine Go.iload_n 5 62 rfl dX6_put_61 rfl ?_
        refine Go.i2b 63 rfl dX6_put_62 ?_
        obtain ⟨g63, hf⟩ := f_grd hf
        obtain ⟨S63, eS63, hf⟩ := f_nm hf
        refine Go.iast 64 rfl dX6_put_63 (isT_lt hk48) (isT_sh hk48) g63 (Go.stt S63 eS63 ?_)
        refine Go.iload 0 66 rfl dX6_put_64 rfl ?_
        refine Go.sipush (1000 : Int32) 69 rfl dX6_put_66 cs_1000 ?_
        refine Go.iadd 70 rfl dX6_put_69 ?_
        exact Go.irS rfl dX6_put_70 hf
      · replace hf := f_if hf hc
        refine Go.aload_n 1 41 rfl dX6_put_40 rfl ?_
        refine Go.iconst (2 : Int32) 42 rfl dX6_put_41 ci_2 ?_
        obtain ⟨r42, S42, er42, hf⟩ := f_bn2 hf
        refine Go.cV 45 [.int (2 : Int32)] [] (C_X6_found G l n S a0 (2 : Int32) r42 S42 ha0 er42) rfl dX6_put_42 cv_X6_74 ha0 (by decide) (by decide) rfl (Nat.le_of_ble_eq_true rfl) ?_
        exact Go.irS rfl dX6_put_45 hf
    · replace hf := f_if hf hc
      refine Go.aload_n 1 26 rfl dX6_put_25 rfl ?_
      refine Go.iconst (1 : Int32) 27 rfl dX6_put_26 ci_1 ?_
      obtain ⟨r27, S27, er27, hf⟩ := f_bn2 hf
      refine Go.cV 30 [.int (1 : Int32)] [] (C_X6_found G l n S a0 (1 : Int32) r27 S27 ha0 er27) rfl dX6_put_27 cv_X6_74 ha0 (by decide) (by decide) rfl (Nat.le_of_ble_eq_true rfl) ?_
      exact Go.irS rfl dX6_put_30 hf
  · replace hf := f_if hf hc
    refine Go.iconst (-1 : Int32) 8 rfl dX6_put_7 ci_m1 ?_
    exact Go.irS rfl dX6_put_8 hf
theorem dX6_fault_0 : decode cX6_fault 0 = .ok (.iload_n 1, 1) := by decide +kernel
theorem dX6_fault_1 : decode cX6_fault 1 = .ok (.invokestatic 105, 3) := by decide +kernel
theorem dX6_fault_4 : decode cX6_fault 4 = .ok (.ifCond .ne 5, 3) := by decide +kernel
theorem dX6_fault_7 : decode cX6_fault 7 = .ok (.iconst (-1), 1) := by decide +kernel
theorem dX6_fault_8 : decode cX6_fault 8 = .ok (.ireturn, 1) := by decide +kernel
theorem dX6_fault_9 : decode cX6_fault 9 = .ok (.aload_n 0, 1) := by decide +kernel
theorem dX6_fault_10 : decode cX6_fault 10 = .ok (.getfield 15, 3) := by decide +kernel
theorem dX6_fault_13 : decode cX6_fault 13 = .ok (.iload_n 1, 1) := by decide +kernel
theorem dX6_fault_14 : decode cX6_fault 14 = .ok (.aaload, 1) := by decide +kernel
theorem dX6_fault_15 : decode cX6_fault 15 = .ok (.invokevirtual 82, 3) := by decide +kernel
theorem dX6_fault_18 : decode cX6_fault 18 = .ok (.ifCond .ne 9, 3) := by decide +kernel
theorem dX6_fault_21 : decode cX6_fault 21 = .ok (.aload_n 0, 1) := by decide +kernel
theorem dX6_fault_22 : decode cX6_fault 22 = .ok (.iconst 1, 1) := by decide +kernel
theorem dX6_fault_23 : decode cX6_fault 23 = .ok (.invokevirtual 74, 3) := by decide +kernel
theorem dX6_fault_26 : decode cX6_fault 26 = .ok (.ireturn, 1) := by decide +kernel
theorem dX6_fault_27 : decode cX6_fault 27 = .ok (.aload_n 0, 1) := by decide +kernel
theorem dX6_fault_28 : decode cX6_fault 28 = .ok (.getfield 49, 3) := by decide +kernel
theorem dX6_fault_31 : decode cX6_fault 31 = .ok (.aload_n 0, 1) := by decide +kernel
theorem dX6_fault_32 : decode cX6_fault 32 = .ok (.getfield 15, 3) := by decide +kernel
theorem dX6_fault_35 : decode cX6_fault 35 = .ok (.iload_n 1, 1) := by decide +kernel
theorem dX6_fault_36 : decode cX6_fault 36 = .ok (.aaload, 1) := by decide +kernel
theorem dX6_fault_37 : decode cX6_fault 37 = .ok (.invokevirtual 108, 3) := by decide +kernel
theorem dX6_fault_40 : decode cX6_fault 40 = .ok (.ireturn, 1) := by decide +kernel
def F_X6_fault (n : Nat) (S : aSt) (a0 : Nat) (a1 : Int32) : Option (Int32 × aSt) :=
(F_X6_isText n S a1).bind fun r1 =>
if r1 = 0 then (some ((-1 : Int32), S)) else
rfd (S.2.2 a0 1) 9 fun k10 =>
grd (inb a1 (SH k10).2) <|
rfd (S.2.2 k10 a1.toNatClampNeg) 3 fun k14 =>
(F_X4_isThere n S k14).bind fun r15 =>
if r15 = 0 then (bn2 (F_X6_found n S a0 (1 : Int32)) fun r23 S23 =>
some (r23, S23)) else
rfd (S.2.2 a0 7) 0 fun k28 =>
grd (inb a1 (SH k10).2) <|
rfd (S.2.2 k10 a1.toNatClampNeg) 3 fun k36 =>
bn2 (F_X1_readFrom n S k28 k36) fun r37 S37 =>
some (r37, S37)
set_option maxHeartbeats 4000000 in
set_option maxRecDepth 100000 in
theorem C_X6_fault (G : aG) (l : Launch) (n : Nat) (S : aSt) (a0 : Nat) (a1 : Int32) (r : Int32) (Sr : aSt) (ha0 : isT a0 5 = true) (hf : F_X6_fault n S a0 a1 = some (r, Sr)) : Ctr G l yX6_fault mX6_fault (rmM 5) 97 97 S [.ref a0, .int a1] (some (.int r)) Sr := by
  refine Ctr.of (by decide) rfl rfl (Nat.le_of_ble_eq_true rfl) [(0, .ref a0), (1, .int a1)] rfl ?_
  unfold F_X6_fault at hf
  refine Go.iload_n 1 1 rfl dX6_fault_0 rfl ?_
  obtain ⟨r1, er1, hf⟩ := f_bnd hf
  refine Go.cS 4 [.int a1] [] (C_X6_isText G l n S a1 r1  er1) rfl dX6_fault_1 cx_X6_105 (by decide) (by decide) rfl (Nat.le_of_ble_eq_true rfl) ?_
  refine Go.if_ne 9 7 rfl dX6_fault_4 rfl (fun hc => ?_) (fun hc => ?_)
  · replace hf := f_el hf hc
    refine Go.aload_n 0 10 rfl dX6_fault_9 rfl ?_
    obtain ⟨k10, qk10, hk10, hf⟩ := f_rfd hf
    refine Go.getR 13 rfl dX6_fault_10 fl_X6_15 rfl (isT_lt ha0) (isT_sh ha0) qk10 ?_
    refine Go.iload_n 1 14 rfl dX6_fault_13 rfl ?_
    obtain ⟨g14, hf⟩ := f_grd hf
    obtain ⟨k14, qk14, hk14, hf⟩ := f_rfd hf
    refine Go.aaldR 15 rfl dX6_fault_14 (isT_lt hk10) (isT_sh hk10) g14 qk14 ?_
    obtain ⟨r15, er15, hf⟩ := f_bnd hf
    refine Go.cV 18 [] [] (C_X4_isThere G l n S k14 r15 hk14 er15) rfl dX6_fault_15 cv_X6_82 hk14 (by decide) (by decide) rfl (Nat.le_of_ble_eq_true rfl) ?_
    refine Go.if_ne 27 21 rfl dX6_fault_18 rfl (fun hc => ?_) (fun hc => ?_)
    · replace hf := f_el hf hc
      refine Go.aload_n 0 28 rfl dX6_fault_27 rfl ?_
      obtain ⟨k28, qk28, hk28, hf⟩ := f_rfd hf
      refine Go.getR 31 rfl dX6_fault_28 fl_X6_49 rfl (isT_lt ha0) (isT_sh ha0) qk28 ?_
      refine Go.aload_n 0 32 rfl dX6_fault_31 rfl ?_
      refine Go.getR 35 rfl dX6_fault_32 fl_X6_15 rfl (isT_lt ha0) (isT_sh ha0) qk10 ?_
      refine Go.iload_n 1 36 rfl dX6_fault_35 rfl ?_
      obtain ⟨g36, hf⟩ := f_grd hf
      obtain ⟨k36, qk36, hk36, hf⟩ := f_rfd hf
      refine Go.aaldR 37 rfl dX6_fault_36 (isT_lt hk10) (isT_sh hk10) g36 qk36 ?_
      obtain ⟨r37, S37, er37, hf⟩ := f_bn2 hf
      refine Go.cV 40 [.ref k36] [] (C_X1_readFrom G l n S k28 k36 r37 S37 hk28 hk36 er37) rfl dX6_fault_37 cv_X6_108 hk28 (by decide) (by decide) rfl (Nat.le_of_ble_eq_true rfl) ?_
      exact Go.irS rfl dX6_fault_40 hf
    · replace hf := f_if hf hc
      refine Go.aload_n 0 22 rfl dX6_fault_21 rfl ?_
      refine Go.iconst (1 : Int32) 23 rfl dX6_fault_22 ci_1 ?_
      obtain ⟨r23, S23, er23, hf⟩ := f_bn2 hf
      refine Go.cV 26 [.int (1 : Int32)] [] (C_X6_found G l n S a0 (1 : Int32) r23 S23 ha0 er23) rfl dX6_fault_23 cv_X6_74 ha0 (by decide) (by decide) rfl (Nat.le_of_ble_eq_true rfl) ?_
      exact Go.irS rfl dX6_fault_26 hf
  · replace hf := f_if hf hc
    refine Go.iconst (-1 : Int32) 8 rfl dX6_fault_7 ci_m1 ?_
    exact Go.irS rfl dX6_fault_8 hf
theorem dX6_library_0 : decode cX6_library 0 = .ok (.iload_n 1, 1) := by decide +kernel
theorem dX6_library_1 : decode cX6_library 1 = .ok (.invokestatic 105, 3) := by decide +kernel
theorem dX6_library_4 : decode cX6_library 4 = .ok (.ifCond .ne 5, 3) := by decide +kernel
theorem dX6_library_7 : decode cX6_library 7 = .ok (.iconst (-1), 1) := by decide +kernel
theorem dX6_library_8 : decode cX6_library 8 = .ok (.ireturn, 1) := by decide +kernel
theorem dX6_library_9 : decode cX6_library 9 = .ok (.aload_n 0, 1) := by decide +kernel
theorem dX6_library_10 : decode cX6_library 10 = .ok (.getfield 15, 3) := by decide +kernel
theorem dX6_library_13 : decode cX6_library 13 = .ok (.iload_n 1, 1) := by decide +kernel
theorem dX6_library_14 : decode cX6_library 14 = .ok (.aaload, 1) := by decide +kernel
theorem dX6_library_15 : decode cX6_library 15 = .ok (.invokevirtual 82, 3) := by decide +kernel
theorem dX6_library_18 : decode cX6_library 18 = .ok (.ifCond .ne 9, 3) := by decide +kernel
theorem dX6_library_21 : decode cX6_library 21 = .ok (.aload_n 0, 1) := by decide +kernel
theorem dX6_library_22 : decode cX6_library 22 = .ok (.iconst 1, 1) := by decide +kernel
theorem dX6_library_23 : decode cX6_library 23 = .ok (.invokevirtual 74, 3) := by decide +kernel
theorem dX6_library_26 : decode cX6_library 26 = .ok (.ireturn, 1) := by decide +kernel
theorem dX6_library_27 : decode cX6_library 27 = .ok (.aload_n 0, 1) := by decide +kernel
theorem dX6_library_28 : decode cX6_library 28 = .ok (.getfield 49, 3) := by decide +kernel
theorem dX6_library_31 : decode cX6_library 31 = .ok (.aload_n 0, 1) := by decide +kernel
theorem dX6_library_32 : decode cX6_library 32 = .ok (.getfield 15, 3) := by decide +kernel
theorem dX6_library_35 : decode cX6_library 35 = .ok (.iload_n 1, 1) := by decide +kernel
theorem dX6_library_36 : decode cX6_library 36 = .ok (.aaload, 1) := by decide +kernel
theorem dX6_library_37 : decode cX6_library 37 = .ok (.invokevirtual 108, 3) := by decide +kernel
theorem dX6_library_40 : decode cX6_library 40 = .ok (.bipush (-9), 2) := by decide +kernel
theorem dX6_library_42 : decode cX6_library 42 = .ok (.if_icmp .eq 6, 3) := by decide +kernel
theorem dX6_library_45 : decode cX6_library 45 = .ok (.bipush (-4), 2) := by decide +kernel
theorem dX6_library_47 : decode cX6_library 47 = .ok (.ireturn, 1) := by decide +kernel
theorem dX6_library_48 : decode cX6_library 48 = .ok (.aload_n 0, 1) := by decide +kernel
theorem dX6_library_49 : decode cX6_library 49 = .ok (.getfield 45, 3) := by decide +kernel
theorem dX6_library_52 : decode cX6_library 52 = .ok (.astore_n 2, 1) := by decide +kernel
theorem dX6_library_53 : decode cX6_library 53 = .ok (.aload_n 0, 1) := by decide +kernel
theorem dX6_library_54 : decode cX6_library 54 = .ok (.aload_n 0, 1) := by decide +kernel
theorem dX6_library_55 : decode cX6_library 55 = .ok (.getfield 49, 3) := by decide +kernel
theorem dX6_library_58 : decode cX6_library 58 = .ok (.putfield 45, 3) := by decide +kernel
theorem dX6_library_61 : decode cX6_library 61 = .ok (.aload_n 0, 1) := by decide +kernel
theorem dX6_library_62 : decode cX6_library 62 = .ok (.aload_n 2, 1) := by decide +kernel
theorem dX6_library_63 : decode cX6_library 63 = .ok (.putfield 49, 3) := by decide +kernel
theorem dX6_library_66 : decode cX6_library 66 = .ok (.iconst 0, 1) := by decide +kernel
theorem dX6_library_67 : decode cX6_library 67 = .ok (.istore_n 3, 1) := by decide +kernel
theorem dX6_library_68 : decode cX6_library 68 = .ok (.iload_n 3, 1) := by decide +kernel
theorem dX6_library_69 : decode cX6_library 69 = .ok (.iconst 3, 1) := by decide +kernel
theorem dX6_library_70 : decode cX6_library 70 = .ok (.if_icmp .ge 19, 3) := by decide +kernel
theorem dX6_library_73 : decode cX6_library 73 = .ok (.aload_n 0, 1) := by decide +kernel
theorem dX6_library_74 : decode cX6_library 74 = .ok (.getfield 20, 3) := by decide +kernel
theorem dX6_library_77 : decode cX6_library 77 = .ok (.iload_n 3, 1) := by decide +kernel
theorem dX6_library_78 : decode cX6_library 78 = .ok (.aaload, 1) := by decide +kernel
theorem dX6_library_79 : decode cX6_library 79 = .ok (.iconst (-1), 1) := by decide +kernel
theorem dX6_library_80 : decode cX6_library 80 = .ok (.putfield 112, 3) := by decide +kernel
theorem dX6_library_83 : decode cX6_library 83 = .ok (.iinc 3 1, 3) := by decide +kernel
theorem dX6_library_86 : decode cX6_library 86 = .ok (.goto (-18), 3) := by decide +kernel
theorem dX6_library_89 : decode cX6_library 89 = .ok (.aload_n 0, 1) := by decide +kernel
theorem dX6_library_90 : decode cX6_library 90 = .ok (.getfield 45, 3) := by decide +kernel
theorem dX6_library_93 : decode cX6_library 93 = .ok (.getfield 115, 3) := by decide +kernel
theorem dX6_library_96 : decode cX6_library 96 = .ok (.ireturn, 1) := by decide +kernel
def F_X6_library_L68 (a0 : Nat) (K89 : aSt → Option (Int32 × aSt)) : Nat → Int32 → aSt → Option (Int32 × aSt)
  | 0, _, _ => none
  | fu + 1, l68_3, l68S =>
    if (3 : Int32) ≤ l68_3 then (K89 l68S) else
    rfd (l68S.2.2 a0 2) 10 fun k74 =>
    grd (inb l68_3 (SH k74).2) <|
    rfd (l68S.2.2 k74 l68_3.toNatClampNeg) 4 fun k78 =>
    nm (stI l68S k78 6 (-1 : Int32)) fun S80 =>
    F_X6_library_L68 a0 K89 fu (l68_3 + (1 : Int32)) S80
def F_X6_library (n : Nat) (S : aSt) (a0 : Nat) (a1 : Int32) : Option (Int32 × aSt) :=
(F_X6_isText n S a1).bind fun r1 =>
if r1 = 0 then (some ((-1 : Int32), S)) else
rfd (S.2.2 a0 1) 9 fun k10 =>
grd (inb a1 (SH k10).2) <|
rfd (S.2.2 k10 a1.toNatClampNeg) 3 fun k14 =>
(F_X4_isThere n S k14).bind fun r15 =>
if r15 = 0 then (bn2 (F_X6_found n S a0 (1 : Int32)) fun r23 S23 =>
some (r23, S23)) else
rfd (S.2.2 a0 7) 0 fun k28 =>
grd (inb a1 (SH k10).2) <|
rfd (S.2.2 k10 a1.toNatClampNeg) 3 fun k36 =>
bn2 (F_X1_readFrom n S k28 k36) fun r37 S37 =>
if r37 = (-9 : Int32) then (rfd (S37.2.2 a0 6) 0 fun k49 =>
rfd (S37.2.2 a0 7) 0 fun k55 =>
nm (stR S37 a0 6 (some k55)) fun S58 =>
nm (stR S58 a0 7 (some k49)) fun S63 =>
jn (fun (x89S : aSt) => (rfd (x89S.2.2 a0 6) 0 fun k90 =>
some ((x89S.1 k90 7), x89S) : Option (Int32 × aSt))) fun K89 =>
F_X6_library_L68 a0 K89 n (0 : Int32) S63) else
some ((-4 : Int32), S37)
set_option maxHeartbeats 4000000 in
set_option maxRecDepth 100000 in
theorem C_X6_library (G : aG) (l : Launch) (n : Nat) (S : aSt) (a0 : Nat) (a1 : Int32) (r : Int32) (Sr : aSt) (ha0 : isT a0 5 = true) (hf : F_X6_library n S a0 a1 = some (r, Sr)) : Ctr G l yX6_library mX6_library (rmM 5) 97 97 S [.ref a0, .int a1] (some (.int r)) Sr := by
  refine Ctr.of (by decide) rfl rfl (Nat.le_of_ble_eq_true rfl) [(0, .ref a0), (1, .int a1)] rfl ?_
  unfold F_X6_library at hf
  refine Go.iload_n 1 1 rfl dX6_library_0 rfl ?_
  obtain ⟨r1, er1, hf⟩ := f_bnd hf
  refine Go.cS 4 [.int a1] [] (C_X6_isText G l n S a1 r1  er1) rfl dX6_library_1 cx_X6_105 (by decide) (by decide) rfl (Nat.le_of_ble_eq_true rfl) ?_
  refine Go.if_ne 9 7 rfl dX6_library_4 rfl (fun hc => ?_) (fun hc => ?_)
  · replace hf := f_el hf hc
    refine Go.aload_n 0 10 rfl dX6_library_9 rfl ?_
    obtain ⟨k10, qk10, hk10, hf⟩ := f_rfd hf
    refine Go.getR 13 rfl dX6_library_10 fl_X6_15 rfl (isT_lt ha0) (isT_sh ha0) qk10 ?_
    refine Go.iload_n 1 14 rfl dX6_library_13 rfl ?_
    obtain ⟨g14, hf⟩ := f_grd hf
    obtain ⟨k14, qk14, hk14, hf⟩ := f_rfd hf
    refine Go.aaldR 15 rfl dX6_library_14 (isT_lt hk10) (isT_sh hk10) g14 qk14 ?_
    obtain ⟨r15, er15, hf⟩ := f_bnd hf
    refine Go.cV 18 [] [] (C_X4_isThere G l n S k14 r15 hk14 er15) rfl dX6_library_15 cv_X6_82 hk14 (by decide) (by decide) rfl (Nat.le_of_ble_eq_true rfl) ?_
    refine Go.if_ne 27 21 rfl dX6_library_18 rfl (fun hc => ?_) (fun hc => ?_)
    · replace hf := f_el hf hc
      refine Go.aload_n 0 28 rfl dX6_library_27 rfl ?_
      obtain ⟨k28, qk28, hk28, hf⟩ := f_rfd hf
      refine Go.getR 31 rfl dX6_library_28 fl_X6_49 rfl (isT_lt ha0) (isT_sh ha0) qk28 ?_
      refine Go.aload_n 0 32 rfl dX6_library_31 rfl ?_
      refine Go.getR 35 rfl dX6_library_32 fl_X6_15 rfl (isT_lt ha0) (isT_sh ha0) qk10 ?_
      refine Go.iload_n 1 36 rfl dX6_library_35 rfl ?_
      obtain ⟨g36, hf⟩ := f_grd hf
      obtain ⟨k36, qk36, hk36, hf⟩ := f_rfd hf
      refine Go.aaldR 37 rfl dX6_library_36 (isT_lt hk10) (isT_sh hk10) g36 qk36 ?_
      obtain ⟨r37, S37, er37, hf⟩ := f_bn2 hf
      refine Go.cV 40 [.ref k36] [] (C_X1_readFrom G l n S k28 k36 r37 S37 hk28 hk36 er37) rfl dX6_library_37 cv_X6_108 hk28 (by decide) (by decide) rfl (Nat.le_of_ble_eq_true rfl) ?_
      refine Go.bipush (-9 : Int32) 42 rfl dX6_library_40 cb_m9 ?_
      refine Go.icmp_eq 48 45 rfl dX6_library_42 rfl (fun hc => ?_) (fun hc => ?_)
      · replace hf := f_if hf hc
        refine Go.aload_n 0 49 rfl dX6_library_48 rfl ?_
        obtain ⟨k49, qk49, hk49, hf⟩ := f_rfd hf
        refine Go.getR 52 rfl dX6_library_49 fl_X6_45 rfl (isT_lt ha0) (isT_sh ha0) qk49 ?_
        refine Go.astore_n 53 [(2, .ref k49), (0, .ref a0), (1, .int a1)] rfl dX6_library_52 (by decide) rfl ?_
        refine Go.aload_n 1 54 rfl dX6_library_53 rfl ?_
        refine Go.aload_n 1 55 rfl dX6_library_54 rfl ?_
        obtain ⟨k55, qk55, hk55, hf⟩ := f_rfd hf
        refine Go.getR 58 rfl dX6_library_55 fl_X6_49 rfl (isT_lt ha0) (isT_sh ha0) qk55 ?_
        obtain ⟨S58, eS58, hf⟩ := f_nm hf
        refine Go.putR 61 rfl dX6_library_58 fp_X6_45 (Or.inl ⟨_, rfl⟩) rfl (isT_lt ha0) (isT_sh ha0) (fun h => by cases h) (Go.stt S58 eS58 ?_)
        refine Go.aload_n 1 62 rfl dX6_library_61 rfl ?_
        refine Go.aload_n 0 63 rfl dX6_library_62 rfl ?_
        obtain ⟨S63, eS63, hf⟩ := f_nm hf
        refine Go.putR 66 rfl dX6_library_63 fp_X6_49 (Or.inl ⟨_, rfl⟩) rfl (isT_lt ha0) (isT_sh ha0) (fun h => by cases h) (Go.stt S63 eS63 ?_)
        refine Go.iconst (0 : Int32) 67 rfl dX6_library_66 ci_0 ?_
        refine Go.istore_n 68 [(3, .int (0 : Int32)), (2, .ref k49), (0, .ref a0), (1, .int a1)] rfl dX6_library_67 (by decide) rfl ?_
        obtain ⟨K89, eK89, hf⟩ := f_jn hf
        have J89 : ∀ (x89S : aSt), K89 x89S = some (r, Sr) → GoM G l 5 (TmR G (some (.int r)) 97 Sr 0 0) mX6_library 89 [(0, .ref a0)] [] x89S := by
          intro x89S hf
          rw [eK89] at hf
          refine Go.aload_n 0 90 rfl dX6_library_89 rfl ?_
          obtain ⟨k90, qk90, hk90, hf⟩ := f_rfd hf
          refine Go.getR 93 rfl dX6_library_90 fl_X6_45 rfl (isT_lt ha0) (isT_sh ha0) qk90 ?_
          refine Go.getI 96 rfl dX6_library_93 fl_X6_115 rfl (isT_lt hk90) (isT_sh hk90) ?_
          exact Go.irS rfl dX6_library_96 hf
        clear eK89
        have L68 : ∀ (fu : Nat) (l68_3 : Int32) (l68S : aSt), F_X6_library_L68 a0 K89 fu l68_3 l68S = some (r, Sr) → GoM G l 5 (TmR G (some (.int r)) 97 Sr 0 0) mX6_library 68 [(0, .ref a0), (3, .int l68_3)] [] l68S := by
          intro fu
          induction fu with
          | zero => intro l68_3 l68S hf; rw [F_X6_library_L68] at hf; cases hf
          | succ fu ih =>
            intro l68_3 l68S hf
            rw [F_X6_library_L68] at hf
            refine Go.iload_n 1 69 rfl dX6_library_68 rfl ?_
            refine Go.iconst (3 : Int32) 70 rfl dX6_library_69 ci_3 ?_
            refine Go.icmp_ge 89 73 rfl dX6_library_70 rfl (fun hc => ?_) (fun hc => ?_)
            · replace hf := f_if hf hc
              exact Go.sub [0] [(0, .ref a0)] rfl (J89 l68S hf)
            · replace hf := f_el hf hc
              refine Go.aload_n 0 74 rfl dX6_library_73 rfl ?_
              obtain ⟨k74, qk74, hk74, hf⟩ := f_rfd hf
              refine Go.getR 77 rfl dX6_library_74 fl_X6_20 rfl (isT_lt ha0) (isT_sh ha0) qk74 ?_
              refine Go.iload_n 1 78 rfl dX6_library_77 rfl ?_
              obtain ⟨g78, hf⟩ := f_grd hf
              obtain ⟨k78, qk78, hk78, hf⟩ := f_rfd hf
              refine Go.aaldS 79 rfl dX6_library_78 (isT_lt hk74) (isT_sh hk74) g78 qk78 ?_
              refine Go.iconst (-1 : Int32) 80 rfl dX6_library_79 ci_m1 ?_
              obtain ⟨S80, eS80, hf⟩ := f_nm hf
              refine Go.putI 83 rfl dX6_library_80 fp_X6_112 rfl (isT_lt hk78) (isT_sh hk78) (fun h => by cases h) (Go.stt S80 eS80 ?_)
              refine Go.inc 1 86 (1 : Int32) [(3, .int (l68_3 + (1 : Int32))), (0, .ref a0)] rfl dX6_library_83 rfl ci_1 (by decide) rfl ?_
              refine Go.goto 68 dX6_library_86 rfl ?_
              exact Go.sub [1, 0] [(0, .ref a0), (3, .int (l68_3 + (1 : Int32)))] rfl (ih (l68_3 + (1 : Int32)) S80 hf)
        exact Go.sub [2, 0] [(0, .ref a0), (3, .int (0 : Int32))] rfl (L68 n (0 : Int32) S63 hf)
      · replace hf := f_el hf hc
        refine Go.bipush (-4 : Int32) 47 rfl dX6_library_45 cb_m4 ?_
        exact Go.irS rfl dX6_library_47 hf
    · replace hf := f_if hf hc
      refine Go.aload_n 0 22 rfl dX6_library_21 rfl ?_
      refine Go.iconst (1 : Int32) 23 rfl dX6_library_22 ci_1 ?_
      obtain ⟨r23, S23, er23, hf⟩ := f_bn2 hf
      refine Go.cV 26 [.int (1 : Int32)] [] (C_X6_found G l n S a0 (1 : Int32) r23 S23 ha0 er23) rfl dX6_library_23 cv_X6_74 ha0 (by decide) (by decide) rfl (Nat.le_of_ble_eq_true rfl) ?_
      exact Go.irS rfl dX6_library_26 hf
  · replace hf := f_if hf hc
    refine Go.iconst (-1 : Int32) 8 rfl dX6_library_7 ci_m1 ?_
    exact Go.irS rfl dX6_library_8 hf
theorem dX6_card_0 : decode cX6_card 0 = .ok (.aload_n 0, 1) := by decide +kernel
theorem dX6_card_1 : decode cX6_card 1 = .ok (.getfield 45, 3) := by decide +kernel
theorem dX6_card_4 : decode cX6_card 4 = .ok (.iload_n 1, 1) := by decide +kernel
theorem dX6_card_5 : decode cX6_card 5 = .ok (.invokevirtual 118, 3) := by decide +kernel
theorem dX6_card_8 : decode cX6_card 8 = .ok (.ifCond .eq 13, 3) := by decide +kernel
theorem dX6_card_11 : decode cX6_card 11 = .ok (.iload_n 2, 1) := by decide +kernel
theorem dX6_card_12 : decode cX6_card 12 = .ok (.ifCond .lt 9, 3) := by decide +kernel
theorem dX6_card_15 : decode cX6_card 15 = .ok (.iload_n 2, 1) := by decide +kernel
theorem dX6_card_16 : decode cX6_card 16 = .ok (.bipush 6, 2) := by decide +kernel
theorem dX6_card_18 : decode cX6_card 18 = .ok (.if_icmp .lt 5, 3) := by decide +kernel
theorem dX6_card_21 : decode cX6_card 21 = .ok (.iconst (-1), 1) := by decide +kernel
theorem dX6_card_22 : decode cX6_card 22 = .ok (.ireturn, 1) := by decide +kernel
theorem dX6_card_23 : decode cX6_card 23 = .ok (.aload_n 0, 1) := by decide +kernel
theorem dX6_card_24 : decode cX6_card 24 = .ok (.aload_n 0, 1) := by decide +kernel
theorem dX6_card_25 : decode cX6_card 25 = .ok (.getfield 45, 3) := by decide +kernel
theorem dX6_card_28 : decode cX6_card 28 = .ok (.iload_n 1, 1) := by decide +kernel
theorem dX6_card_29 : decode cX6_card 29 = .ok (.iload_n 2, 1) := by decide +kernel
theorem dX6_card_30 : decode cX6_card 30 = .ok (.invokevirtual 121, 3) := by decide +kernel
theorem dX6_card_33 : decode cX6_card 33 = .ok (.putfield 52, 3) := by decide +kernel
theorem dX6_card_36 : decode cX6_card 36 = .ok (.iconst 1, 1) := by decide +kernel
theorem dX6_card_37 : decode cX6_card 37 = .ok (.ireturn, 1) := by decide +kernel
def F_X6_card (n : Nat) (S : aSt) (a0 : Nat) (a1 : Int32) (a2 : Int32) : Option (Int32 × aSt) :=
rfd (S.2.2 a0 6) 0 fun k1 =>
(F_X1_isCard n S k1 a1).bind fun r5 =>
if r5 = 0 then (some ((-1 : Int32), S)) else
if a2 < 0 then (some ((-1 : Int32), S)) else
if a2 < (6 : Int32) then ((F_X1_cardFact n S k1 a1 a2).bind fun r30 =>
nm (stI S a0 8 r30) fun S33 =>
some ((1 : Int32), S33)) else
some ((-1 : Int32), S)
set_option maxHeartbeats 4000000 in
set_option maxRecDepth 100000 in
theorem C_X6_card (G : aG) (l : Launch) (n : Nat) (S : aSt) (a0 : Nat) (a1 : Int32) (a2 : Int32) (r : Int32) (Sr : aSt) (ha0 : isT a0 5 = true) (hf : F_X6_card n S a0 a1 a2 = some (r, Sr)) : Ctr G l yX6_card mX6_card (rmM 4) 97 97 S [.ref a0, .int a1, .int a2] (some (.int r)) Sr := by
  refine Ctr.of (by decide) rfl rfl (Nat.le_of_ble_eq_true rfl) [(0, .ref a0), (1, .int a1), (2, .int a2)] rfl ?_
  unfold F_X6_card at hf
  refine Go.aload_n 0 1 rfl dX6_card_0 rfl ?_
  obtain ⟨k1, qk1, hk1, hf⟩ := f_rfd hf
  refine Go.getR 4 rfl dX6_card_1 fl_X6_45 rfl (isT_lt ha0) (isT_sh ha0) qk1 ?_
  refine Go.iload_n 1 5 rfl dX6_card_4 rfl ?_
  obtain ⟨r5, er5, hf⟩ := f_bnd hf
  refine Go.cV 8 [.int a1] [] (C_X1_isCard G l n S k1 a1 r5 hk1 er5) rfl dX6_card_5 cv_X6_118 hk1 (by decide) (by decide) rfl (Nat.le_of_ble_eq_true rfl) ?_
  refine Go.if_eq 21 11 rfl dX6_card_8 rfl (fun hc => ?_) (fun hc => ?_)
  · replace hf := f_if hf hc
    refine Go.iconst (-1 : Int32) 22 rfl dX6_card_21 ci_m1 ?_
    exact Go.irS rfl dX6_card_22 hf
  · replace hf := f_el hf hc
    refine Go.iload_n 2 12 rfl dX6_card_11 rfl ?_
    refine Go.if_lt 21 15 rfl dX6_card_12 rfl (fun hc => ?_) (fun hc => ?_)
    · replace hf := f_if hf hc
      refine Go.iconst (-1 : Int32) 22 rfl dX6_card_21 ci_m1 ?_
      exact Go.irS rfl dX6_card_22 hf
    · replace hf := f_el hf hc
      refine Go.iload_n 2 16 rfl dX6_card_15 rfl ?_
      refine Go.bipush (6 : Int32) 18 rfl dX6_card_16 cb_6 ?_
      refine Go.icmp_lt 23 21 rfl dX6_card_18 rfl (fun hc => ?_) (fun hc => ?_)
      · replace hf := f_if hf hc
        refine Go.aload_n 0 24 rfl dX6_card_23 rfl ?_
        refine Go.aload_n 0 25 rfl dX6_card_24 rfl ?_
        refine Go.getR 28 rfl dX6_card_25 fl_X6_45 rfl (isT_lt ha0) (isT_sh ha0) qk1 ?_
        refine Go.iload_n 1 29 rfl dX6_card_28 rfl ?_
        refine Go.iload_n 2 30 rfl dX6_card_29 rfl ?_
        obtain ⟨r30, er30, hf⟩ := f_bnd hf
        refine Go.cV 33 [.int a1, .int a2] [.ref a0] (C_X1_cardFact G l n S k1 a1 a2 r30 hk1 er30) rfl dX6_card_30 cv_X6_121 hk1 (by decide) (by decide) rfl (Nat.le_of_ble_eq_true rfl) ?_
        obtain ⟨S33, eS33, hf⟩ := f_nm hf
        refine Go.putI 36 rfl dX6_card_33 fp_X6_52 rfl (isT_lt ha0) (isT_sh ha0) (fun h => by cases h) (Go.stt S33 eS33 ?_)
        refine Go.iconst (1 : Int32) 37 rfl dX6_card_36 ci_1 ?_
        exact Go.irS rfl dX6_card_37 hf
      · replace hf := f_el hf hc
        refine Go.iconst (-1 : Int32) 22 rfl dX6_card_21 ci_m1 ?_
        exact Go.irS rfl dX6_card_22 hf
theorem dX6_question_0 : decode cX6_question 0 = .ok (.aload_n 0, 1) := by decide +kernel
theorem dX6_question_1 : decode cX6_question 1 = .ok (.getfield 45, 3) := by decide +kernel
theorem dX6_question_4 : decode cX6_question 4 = .ok (.iload_n 1, 1) := by decide +kernel
theorem dX6_question_5 : decode cX6_question 5 = .ok (.invokevirtual 125, 3) := by decide +kernel
theorem dX6_question_8 : decode cX6_question 8 = .ok (.ifCond .eq 13, 3) := by decide +kernel
theorem dX6_question_11 : decode cX6_question 11 = .ok (.iload_n 2, 1) := by decide +kernel
theorem dX6_question_12 : decode cX6_question 12 = .ok (.ifCond .lt 9, 3) := by decide +kernel
theorem dX6_question_15 : decode cX6_question 15 = .ok (.iload_n 2, 1) := by decide +kernel
theorem dX6_question_16 : decode cX6_question 16 = .ok (.bipush 6, 2) := by decide +kernel
theorem dX6_question_18 : decode cX6_question 18 = .ok (.if_icmp .lt 5, 3) := by decide +kernel
theorem dX6_question_21 : decode cX6_question 21 = .ok (.iconst (-1), 1) := by decide +kernel
theorem dX6_question_22 : decode cX6_question 22 = .ok (.ireturn, 1) := by decide +kernel
theorem dX6_question_23 : decode cX6_question 23 = .ok (.aload_n 0, 1) := by decide +kernel
theorem dX6_question_24 : decode cX6_question 24 = .ok (.aload_n 0, 1) := by decide +kernel
theorem dX6_question_25 : decode cX6_question 25 = .ok (.getfield 45, 3) := by decide +kernel
theorem dX6_question_28 : decode cX6_question 28 = .ok (.iload_n 1, 1) := by decide +kernel
theorem dX6_question_29 : decode cX6_question 29 = .ok (.iload_n 2, 1) := by decide +kernel
theorem dX6_question_30 : decode cX6_question 30 = .ok (.invokevirtual 128, 3) := by decide +kernel
theorem dX6_question_33 : decode cX6_question 33 = .ok (.putfield 52, 3) := by decide +kernel
theorem dX6_question_36 : decode cX6_question 36 = .ok (.iconst 1, 1) := by decide +kernel
theorem dX6_question_37 : decode cX6_question 37 = .ok (.ireturn, 1) := by decide +kernel
def F_X6_question (n : Nat) (S : aSt) (a0 : Nat) (a1 : Int32) (a2 : Int32) : Option (Int32 × aSt) :=
rfd (S.2.2 a0 6) 0 fun k1 =>
(F_X1_isQuestion n S k1 a1).bind fun r5 =>
if r5 = 0 then (some ((-1 : Int32), S)) else
if a2 < 0 then (some ((-1 : Int32), S)) else
if a2 < (6 : Int32) then ((F_X1_questionFact n S k1 a1 a2).bind fun r30 =>
nm (stI S a0 8 r30) fun S33 =>
some ((1 : Int32), S33)) else
some ((-1 : Int32), S)
set_option maxHeartbeats 4000000 in
set_option maxRecDepth 100000 in
theorem C_X6_question (G : aG) (l : Launch) (n : Nat) (S : aSt) (a0 : Nat) (a1 : Int32) (a2 : Int32) (r : Int32) (Sr : aSt) (ha0 : isT a0 5 = true) (hf : F_X6_question n S a0 a1 a2 = some (r, Sr)) : Ctr G l yX6_question mX6_question (rmM 2) 97 97 S [.ref a0, .int a1, .int a2] (some (.int r)) Sr := by
  refine Ctr.of (by decide) rfl rfl (Nat.le_of_ble_eq_true rfl) [(0, .ref a0), (1, .int a1), (2, .int a2)] rfl ?_
  unfold F_X6_question at hf
  refine Go.aload_n 0 1 rfl dX6_question_0 rfl ?_
  obtain ⟨k1, qk1, hk1, hf⟩ := f_rfd hf
  refine Go.getR 4 rfl dX6_question_1 fl_X6_45 rfl (isT_lt ha0) (isT_sh ha0) qk1 ?_
  refine Go.iload_n 1 5 rfl dX6_question_4 rfl ?_
  obtain ⟨r5, er5, hf⟩ := f_bnd hf
  refine Go.cV 8 [.int a1] [] (C_X1_isQuestion G l n S k1 a1 r5 hk1 er5) rfl dX6_question_5 cv_X6_125 hk1 (by decide) (by decide) rfl (Nat.le_of_ble_eq_true rfl) ?_
  refine Go.if_eq 21 11 rfl dX6_question_8 rfl (fun hc => ?_) (fun hc => ?_)
  · replace hf := f_if hf hc
    refine Go.iconst (-1 : Int32) 22 rfl dX6_question_21 ci_m1 ?_
    exact Go.irS rfl dX6_question_22 hf
  · replace hf := f_el hf hc
    refine Go.iload_n 2 12 rfl dX6_question_11 rfl ?_
    refine Go.if_lt 21 15 rfl dX6_question_12 rfl (fun hc => ?_) (fun hc => ?_)
    · replace hf := f_if hf hc
      refine Go.iconst (-1 : Int32) 22 rfl dX6_question_21 ci_m1 ?_
      exact Go.irS rfl dX6_question_22 hf
    · replace hf := f_el hf hc
      refine Go.iload_n 2 16 rfl dX6_question_15 rfl ?_
      refine Go.bipush (6 : Int32) 18 rfl dX6_question_16 cb_6 ?_
      refine Go.icmp_lt 23 21 rfl dX6_question_18 rfl (fun hc => ?_) (fun hc => ?_)
      · replace hf := f_if hf hc
        refine Go.aload_n 0 24 rfl dX6_question_23 rfl ?_
        refine Go.aload_n 0 25 rfl dX6_question_24 rfl ?_
        refine Go.getR 28 rfl dX6_question_25 fl_X6_45 rfl (isT_lt ha0) (isT_sh ha0) qk1 ?_
        refine Go.iload_n 1 29 rfl dX6_question_28 rfl ?_
        refine Go.iload_n 2 30 rfl dX6_question_29 rfl ?_
        obtain ⟨r30, er30, hf⟩ := f_bnd hf
        refine Go.cV 33 [.int a1, .int a2] [.ref a0] (C_X1_questionFact G l n S k1 a1 a2 r30 hk1 er30) rfl dX6_question_30 cv_X6_128 hk1 (by decide) (by decide) rfl (Nat.le_of_ble_eq_true rfl) ?_
        obtain ⟨S33, eS33, hf⟩ := f_nm hf
        refine Go.putI 36 rfl dX6_question_33 fp_X6_52 rfl (isT_lt ha0) (isT_sh ha0) (fun h => by cases h) (Go.stt S33 eS33 ?_)
        refine Go.iconst (1 : Int32) 37 rfl dX6_question_36 ci_1 ?_
        exact Go.irS rfl dX6_question_37 hf
      · replace hf := f_el hf hc
        refine Go.iconst (-1 : Int32) 22 rfl dX6_question_21 ci_m1 ?_
        exact Go.irS rfl dX6_question_22 hf
theorem dX6_mark_0 : decode cX6_mark 0 = .ok (.aload_n 0, 1) := by decide +kernel
theorem dX6_mark_1 : decode cX6_mark 1 = .ok (.getfield 45, 3) := by decide +kernel
theorem dX6_mark_4 : decode cX6_mark 4 = .ok (.iload_n 1, 1) := by decide +kernel
theorem dX6_mark_5 : decode cX6_mark 5 = .ok (.invokevirtual 118, 3) := by decide +kernel
theorem dX6_mark_8 : decode cX6_mark 8 = .ok (.ifCond .eq 13, 3) := by decide +kernel
theorem dX6_mark_11 : decode cX6_mark 11 = .ok (.iload_n 2, 1) := by decide +kernel
theorem dX6_mark_12 : decode cX6_mark 12 = .ok (.ifCond .le 9, 3) := by decide +kernel
theorem dX6_mark_15 : decode cX6_mark 15 = .ok (.iload_n 2, 1) := by decide +kernel
theorem dX6_mark_16 : decode cX6_mark 16 = .ok (.bipush 6, 2) := by decide +kernel
theorem dX6_mark_18 : decode cX6_mark 18 = .ok (.if_icmp .lt 5, 3) := by decide +kernel
theorem dX6_mark_21 : decode cX6_mark 21 = .ok (.iconst (-1), 1) := by decide +kernel
theorem dX6_mark_22 : decode cX6_mark 22 = .ok (.ireturn, 1) := by decide +kernel
theorem dX6_mark_23 : decode cX6_mark 23 = .ok (.aload_n 0, 1) := by decide +kernel
theorem dX6_mark_24 : decode cX6_mark 24 = .ok (.getfield 45, 3) := by decide +kernel
theorem dX6_mark_27 : decode cX6_mark 27 = .ok (.getfield 131, 3) := by decide +kernel
theorem dX6_mark_30 : decode cX6_mark 30 = .ok (.iload_n 1, 1) := by decide +kernel
theorem dX6_mark_31 : decode cX6_mark 31 = .ok (.iaload, 1) := by decide +kernel
theorem dX6_mark_32 : decode cX6_mark 32 = .ok (.iload_n 2, 1) := by decide +kernel
theorem dX6_mark_33 : decode cX6_mark 33 = .ok (.invokestatic 134, 3) := by decide +kernel
theorem dX6_mark_36 : decode cX6_mark 36 = .ok (.ifCond .ne 9, 3) := by decide +kernel
theorem dX6_mark_39 : decode cX6_mark 39 = .ok (.aload_n 0, 1) := by decide +kernel
theorem dX6_mark_40 : decode cX6_mark 40 = .ok (.iconst 3, 1) := by decide +kernel
theorem dX6_mark_41 : decode cX6_mark 41 = .ok (.invokevirtual 74, 3) := by decide +kernel
theorem dX6_mark_44 : decode cX6_mark 44 = .ok (.ireturn, 1) := by decide +kernel
theorem dX6_mark_45 : decode cX6_mark 45 = .ok (.aload_n 0, 1) := by decide +kernel
theorem dX6_mark_46 : decode cX6_mark 46 = .ok (.getfield 45, 3) := by decide +kernel
theorem dX6_mark_49 : decode cX6_mark 49 = .ok (.iload_n 1, 1) := by decide +kernel
theorem dX6_mark_50 : decode cX6_mark 50 = .ok (.iload_n 2, 1) := by decide +kernel
theorem dX6_mark_51 : decode cX6_mark 51 = .ok (.invokevirtual 139, 3) := by decide +kernel
theorem dX6_mark_54 : decode cX6_mark 54 = .ok (.ireturn, 1) := by decide +kernel
def F_X6_mark (n : Nat) (S : aSt) (a0 : Nat) (a1 : Int32) (a2 : Int32) : Option (Int32 × aSt) :=
rfd (S.2.2 a0 6) 0 fun k1 =>
(F_X1_isCard n S k1 a1).bind fun r5 =>
if r5 = 0 then (some ((-1 : Int32), S)) else
if a2 ≤ 0 then (some ((-1 : Int32), S)) else
if a2 < (6 : Int32) then (rfd (S.2.2 k1 0) 7 fun k27 =>
grd (inb a1 (SH k27).2) <|
(F_X0_isA n S (S.1 k27 a1.toNatClampNeg) a2).bind fun r33 =>
if r33 = 0 then (bn2 (F_X6_found n S a0 (3 : Int32)) fun r41 S41 =>
some (r41, S41)) else
(F_X1_markOf n S k1 a1 a2).bind fun r51 =>
some (r51, S)) else
some ((-1 : Int32), S)
set_option maxHeartbeats 4000000 in
set_option maxRecDepth 100000 in
theorem C_X6_mark (G : aG) (l : Launch) (n : Nat) (S : aSt) (a0 : Nat) (a1 : Int32) (a2 : Int32) (r : Int32) (Sr : aSt) (ha0 : isT a0 5 = true) (hf : F_X6_mark n S a0 a1 a2 = some (r, Sr)) : Ctr G l yX6_mark mX6_mark (rmM 6) 97 97 S [.ref a0, .int a1, .int a2] (some (.int r)) Sr := by
  refine Ctr.of (by decide) rfl rfl (Nat.le_of_ble_eq_true rfl) [(0, .ref a0), (1, .int a1), (2, .int a2)] rfl ?_
  unfold F_X6_mark at hf
  refine Go.aload_n 0 1 rfl dX6_mark_0 rfl ?_
  obtain ⟨k1, qk1, hk1, hf⟩ := f_rfd hf
  refine Go.getR 4 rfl dX6_mark_1 fl_X6_45 rfl (isT_lt ha0) (isT_sh ha0) qk1 ?_
  refine Go.iload_n 1 5 rfl dX6_mark_4 rfl ?_
  obtain ⟨r5, er5, hf⟩ := f_bnd hf
  refine Go.cV 8 [.int a1] [] (C_X1_isCard G l n S k1 a1 r5 hk1 er5) rfl dX6_mark_5 cv_X6_118 hk1 (by decide) (by decide) rfl (Nat.le_of_ble_eq_true rfl) ?_
  refine Go.if_eq 21 11 rfl dX6_mark_8 rfl (fun hc => ?_) (fun hc => ?_)
  · replace hf := f_if hf hc
    refine Go.iconst (-1 : Int32) 22 rfl dX6_mark_21 ci_m1 ?_
    exact Go.irS rfl dX6_mark_22 hf
  · replace hf := f_el hf hc
    refine Go.iload_n 2 12 rfl dX6_mark_11 rfl ?_
    refine Go.if_le 21 15 rfl dX6_mark_12 rfl (fun hc => ?_) (fun hc => ?_)
    · replace hf := f_if hf hc
      refine Go.iconst (-1 : Int32) 22 rfl dX6_mark_21 ci_m1 ?_
      exact Go.irS rfl dX6_mark_22 hf
    · replace hf := f_el hf hc
      refine Go.iload_n 2 16 rfl dX6_mark_15 rfl ?_
      refine Go.bipush (6 : Int32) 18 rfl dX6_mark_16 cb_6 ?_
      refine Go.icmp_lt 23 21 rfl dX6_mark_18 rfl (fun hc => ?_) (fun hc => ?_)
      · replace hf := f_if hf hc
        refine Go.aload_n 0 24 rfl dX6_mark_23 rfl ?_
        refine Go.getR 27 rfl dX6_mark_24 fl_X6_45 rfl (isT_lt ha0) (isT_sh ha0) qk1 ?_
        obtain ⟨k27, qk27, hk27, hf⟩ := f_rfd hf
        refine Go.getR 30 rfl dX6_mark_27 fl_X6_131 rfl (isT_lt hk1) (isT_sh hk1) qk27 ?_
        refine Go.iload_n 1 31 rfl dX6_mark_30 rfl ?_
        obtain ⟨g31, hf⟩ := f_grd hf
        refine Go.iald 32 rfl dX6_mark_31 (isT_lt hk27) (isT_sh hk27) g31 ?_
        refine Go.iload_n 2 33 rfl dX6_mark_32 rfl ?_
        obtain ⟨r33, er33, hf⟩ := f_bnd hf
        refine Go.cS 36 [.int (S.1 k27 a1.toNatClampNeg), .int a2] [] (C_X0_isA G l n S (S.1 k27 a1.toNatClampNeg) a2 r33  er33) rfl dX6_mark_33 cx_X6_134 (by decide) (by decide) rfl (Nat.le_of_ble_eq_true rfl) ?_
        refine Go.if_ne 45 39 rfl dX6_mark_36 rfl (fun hc => ?_) (fun hc => ?_)
        · replace hf := f_el hf hc
          refine Go.aload_n 0 46 rfl dX6_mark_45 rfl ?_
          refine Go.getR 49 rfl dX6_mark_46 fl_X6_45 rfl (isT_lt ha0) (isT_sh ha0) qk1 ?_
          refine Go.iload_n 1 50 rfl dX6_mark_49 rfl ?_
          refine Go.iload_n 2 51 rfl dX6_mark_50 rfl ?_
          obtain ⟨r51, er51, hf⟩ := f_bnd hf
          refine Go.cV 54 [.int a1, .int a2] [] (C_X1_markOf G l n S k1 a1 a2 r51 hk1 er51) rfl dX6_mark_51 cv_X6_139 hk1 (by decide) (by decide) rfl (Nat.le_of_ble_eq_true rfl) ?_
          exact Go.irS rfl dX6_mark_54 hf
        · replace hf := f_if hf hc
          refine Go.aload_n 0 40 rfl dX6_mark_39 rfl ?_
          refine Go.iconst (3 : Int32) 41 rfl dX6_mark_40 ci_3 ?_
          obtain ⟨r41, S41, er41, hf⟩ := f_bn2 hf
          refine Go.cV 44 [.int (3 : Int32)] [] (C_X6_found G l n S a0 (3 : Int32) r41 S41 ha0 er41) rfl dX6_mark_41 cv_X6_74 ha0 (by decide) (by decide) rfl (Nat.le_of_ble_eq_true rfl) ?_
          exact Go.irS rfl dX6_mark_44 hf
      · replace hf := f_el hf hc
        refine Go.iconst (-1 : Int32) 22 rfl dX6_mark_21 ci_m1 ?_
        exact Go.irS rfl dX6_mark_22 hf
theorem dX6_shelve_0 : decode cX6_shelve 0 = .ok (.aload_n 0, 1) := by decide +kernel
theorem dX6_shelve_1 : decode cX6_shelve 1 = .ok (.getfield 45, 3) := by decide +kernel
theorem dX6_shelve_4 : decode cX6_shelve 4 = .ok (.iload_n 1, 1) := by decide +kernel
theorem dX6_shelve_5 : decode cX6_shelve 5 = .ok (.invokevirtual 118, 3) := by decide +kernel
theorem dX6_shelve_8 : decode cX6_shelve 8 = .ok (.ifCond .eq 12, 3) := by decide +kernel
theorem dX6_shelve_11 : decode cX6_shelve 11 = .ok (.iload_n 2, 1) := by decide +kernel
theorem dX6_shelve_12 : decode cX6_shelve 12 = .ok (.ifCond .lt 8, 3) := by decide +kernel
theorem dX6_shelve_15 : decode cX6_shelve 15 = .ok (.iload_n 2, 1) := by decide +kernel
theorem dX6_shelve_16 : decode cX6_shelve 16 = .ok (.iconst 4, 1) := by decide +kernel
theorem dX6_shelve_17 : decode cX6_shelve 17 = .ok (.if_icmp .lt 5, 3) := by decide +kernel
theorem dX6_shelve_20 : decode cX6_shelve 20 = .ok (.iconst (-1), 1) := by decide +kernel
theorem dX6_shelve_21 : decode cX6_shelve 21 = .ok (.ireturn, 1) := by decide +kernel
theorem dX6_shelve_22 : decode cX6_shelve 22 = .ok (.aload_n 0, 1) := by decide +kernel
theorem dX6_shelve_23 : decode cX6_shelve 23 = .ok (.getfield 45, 3) := by decide +kernel
theorem dX6_shelve_26 : decode cX6_shelve 26 = .ok (.getfield 142, 3) := by decide +kernel
theorem dX6_shelve_29 : decode cX6_shelve 29 = .ok (.getfield 146, 3) := by decide +kernel
theorem dX6_shelve_32 : decode cX6_shelve 32 = .ok (.iload_n 1, 1) := by decide +kernel
theorem dX6_shelve_33 : decode cX6_shelve 33 = .ok (.iaload, 1) := by decide +kernel
theorem dX6_shelve_34 : decode cX6_shelve 34 = .ok (.istore_n 3, 1) := by decide +kernel
theorem dX6_shelve_35 : decode cX6_shelve 35 = .ok (.aload_n 0, 1) := by decide +kernel
theorem dX6_shelve_36 : decode cX6_shelve 36 = .ok (.getfield 45, 3) := by decide +kernel
theorem dX6_shelve_39 : decode cX6_shelve 39 = .ok (.getfield 142, 3) := by decide +kernel
theorem dX6_shelve_42 : decode cX6_shelve 42 = .ok (.getfield 146, 3) := by decide +kernel
theorem dX6_shelve_45 : decode cX6_shelve 45 = .ok (.iload_n 1, 1) := by decide +kernel
theorem dX6_shelve_46 : decode cX6_shelve 46 = .ok (.iload_n 2, 1) := by decide +kernel
theorem dX6_shelve_47 : decode cX6_shelve 47 = .ok (.iastore, 1) := by decide +kernel
theorem dX6_shelve_48 : decode cX6_shelve 48 = .ok (.iload_n 3, 1) := by decide +kernel
theorem dX6_shelve_49 : decode cX6_shelve 49 = .ok (.ireturn, 1) := by decide +kernel
def F_X6_shelve (n : Nat) (S : aSt) (a0 : Nat) (a1 : Int32) (a2 : Int32) : Option (Int32 × aSt) :=
rfd (S.2.2 a0 6) 0 fun k1 =>
(F_X1_isCard n S k1 a1).bind fun r5 =>
if r5 = 0 then (some ((-1 : Int32), S)) else
if a2 < 0 then (some ((-1 : Int32), S)) else
if a2 < (4 : Int32) then (rfd (S.2.2 k1 6) 4 fun k26 =>
rfd (S.2.2 k26 0) 7 fun k29 =>
grd (inb a1 (SH k29).2) <|
nm (S.1 k29 a1.toNatClampNeg) fun v34 =>
grd (inb a1 (SH k29).2) <|
nm (stI S k29 a1.toNatClampNeg a2) fun S47 =>
some (v34, S47)) else
some ((-1 : Int32), S)
set_option maxHeartbeats 4000000 in
set_option maxRecDepth 100000 in
theorem C_X6_shelve (G : aG) (l : Launch) (n : Nat) (S : aSt) (a0 : Nat) (a1 : Int32) (a2 : Int32) (r : Int32) (Sr : aSt) (ha0 : isT a0 5 = true) (hf : F_X6_shelve n S a0 a1 a2 = some (r, Sr)) : Ctr G l yX6_shelve mX6_shelve (rmM 2) 97 97 S [.ref a0, .int a1, .int a2] (some (.int r)) Sr := by
  refine Ctr.of (by decide) rfl rfl (Nat.le_of_ble_eq_true rfl) [(0, .ref a0), (1, .int a1), (2, .int a2)] rfl ?_
  unfold F_X6_shelve at hf
  refine Go.aload_n 0 1 rfl dX6_shelve_0 rfl ?_
  obtain ⟨k1, qk1, hk1, hf⟩ := f_rfd hf
  refine Go.getR 4 rfl dX6_shelve_1 fl_X6_45 rfl (isT_lt ha0) (isT_sh ha0) qk1 ?_
  refine Go.iload_n 1 5 rfl dX6_shelve_4 rfl ?_
  obtain ⟨r5, er5, hf⟩ := f_bnd hf
  refine Go.cV 8 [.int a1] [] (C_X1_isCard G l n S k1 a1 r5 hk1 er5) rfl dX6_shelve_5 cv_X6_118 hk1 (by decide) (by decide) rfl (Nat.le_of_ble_eq_true rfl) ?_
  refine Go.if_eq 20 11 rfl dX6_shelve_8 rfl (fun hc => ?_) (fun hc => ?_)
  · replace hf := f_if hf hc
    refine Go.iconst (-1 : Int32) 21 rfl dX6_shelve_20 ci_m1 ?_
    exact Go.irS rfl dX6_shelve_21 hf
  · replace hf := f_el hf hc
    refine Go.iload_n 2 12 rfl dX6_shelve_11 rfl ?_
    refine Go.if_lt 20 15 rfl dX6_shelve_12 rfl (fun hc => ?_) (fun hc => ?_)
    · replace hf := f_if hf hc
      refine Go.iconst (-1 : Int32) 21 rfl dX6_shelve_20 ci_m1 ?_
      exact Go.irS rfl dX6_shelve_21 hf
    · replace hf := f_el hf hc
      refine Go.iload_n 2 16 rfl dX6_shelve_15 rfl ?_
      refine Go.iconst (4 : Int32) 17 rfl dX6_shelve_16 ci_4 ?_
      refine Go.icmp_lt 22 20 rfl dX6_shelve_17 rfl (fun hc => ?_) (fun hc => ?_)
      · replace hf := f_if hf hc
        refine Go.aload_n 0 23 rfl dX6_shelve_22 rfl ?_
        refine Go.getR 26 rfl dX6_shelve_23 fl_X6_45 rfl (isT_lt ha0) (isT_sh ha0) qk1 ?_
        obtain ⟨k26, qk26, hk26, hf⟩ := f_rfd hf
        refine Go.getR 29 rfl dX6_shelve_26 fl_X6_142 rfl (isT_lt hk1) (isT_sh hk1) qk26 ?_
        obtain ⟨k29, qk29, hk29, hf⟩ := f_rfd hf
        refine Go.getR 32 rfl dX6_shelve_29 fl_X6_146 rfl (isT_lt hk26) (isT_sh hk26) qk29 ?_
        refine Go.iload_n 1 33 rfl dX6_shelve_32 rfl ?_
        obtain ⟨g33, hf⟩ := f_grd hf
        refine Go.iald 34 rfl dX6_shelve_33 (isT_lt hk29) (isT_sh hk29) g33 ?_
        obtain ⟨v34, ev34, hf⟩ := f_nm hf
        refine Go.topi v34 ev34 ?_
        refine Go.istore_n 35 [(3, .int v34), (0, .ref a0), (1, .int a1), (2, .int a2)] rfl dX6_shelve_34 (by decide) rfl ?_
        refine Go.aload_n 1 36 rfl dX6_shelve_35 rfl ?_
        refine Go.getR 39 rfl dX6_shelve_36 fl_X6_45 rfl (isT_lt ha0) (isT_sh ha0) qk1 ?_
        refine Go.getR 42 rfl dX6_shelve_39 fl_X6_142 rfl (isT_lt hk1) (isT_sh hk1) qk26 ?_
        refine Go.getR 45 rfl dX6_shelve_42 fl_X6_146 rfl (isT_lt hk26) (isT_sh hk26) qk29 ?_
        refine Go.iload_n 2 46 rfl dX6_shelve_45 rfl ?_
        refine Go.iload_n 3 47 rfl dX6_shelve_46 rfl ?_
        obtain ⟨g47, hf⟩ := f_grd hf
        obtain ⟨S47, eS47, hf⟩ := f_nm hf
        refine Go.iast 48 rfl dX6_shelve_47 (isT_lt hk29) (isT_sh hk29) g47 (Go.stt S47 eS47 ?_)
        refine Go.iload_n 0 49 rfl dX6_shelve_48 rfl ?_
        exact Go.irS rfl dX6_shelve_49 hf
      · replace hf := f_el hf hc
        refine Go.iconst (-1 : Int32) 21 rfl dX6_shelve_20 ci_m1 ?_
        exact Go.irS rfl dX6_shelve_21 hf
