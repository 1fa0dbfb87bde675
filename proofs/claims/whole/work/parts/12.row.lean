/-! written by program: X4_reaches X4_begin X4_layAt X4_isThere X4_holds X4_foldInto -/
theorem dX4_reaches_0 : decode cX4_reaches 0 = .ok (.iload_n 1, 1) := by decide +kernel
theorem dX4_reaches_1 : decode cX4_reaches 1 = .ok (.ifCond .lt 15, 3) := by decide +kernel
theorem dX4_reaches_4 : decode cX4_reaches 4 = .ok (.iload_n 1, 1) := by decide +kernel
theorem dX4_reaches_5 : decode cX4_reaches 5 = .ok (.aload_n 0, 1) := by decide +kernel
theorem dX4_reaches_6 : decode cX4_reaches 6 = .ok (.getfield 9, 3) := by decide +kernel
theorem dX4_reaches_9 : decode cX4_reaches 9 = .ok (.if_icmp .ge 7, 3) := by decide +kernel
theorem dX4_reaches_12 : decode cX4_reaches 12 = .ok (.iconst 1, 1) := by decide +kernel
theorem dX4_reaches_13 : decode cX4_reaches 13 = .ok (.goto 4, 3) := by decide +kernel
theorem dX4_reaches_16 : decode cX4_reaches 16 = .ok (.iconst 0, 1) := by decide +kernel
theorem dX4_reaches_17 : decode cX4_reaches 17 = .ok (.ireturn, 1) := by decide +kernel
def F_X4_reaches (n : Nat) (S : aSt) (a0 : Nat) (a1 : Int32) : Option Int32 :=
if a1 < 0 then (some (0 : Int32)) else
if (S.1 a0 1) ≤ a1 then (some (0 : Int32)) else
some (1 : Int32)
set_option maxHeartbeats 4000000 in
set_option maxRecDepth 100000 in
theorem C_X4_reaches (G : aG) (l : Launch) (n : Nat) (S : aSt) (a0 : Nat) (a1 : Int32) (r : Int32) (ha0 : isT a0 3 = true) (hf : F_X4_reaches n S a0 a1 = some r) : Ctr G l yX4_reaches mX4_reaches (rmM 1) 97 97 S [.ref a0, .int a1] (some (.int r)) S := by
  refine Ctr.of (by decide) rfl rfl (Nat.le_of_ble_eq_true rfl) [(0, .ref a0), (1, .int a1)] rfl ?_
  unfold F_X4_reaches at hf
  refine Go.iload_n 1 1 rfl dX4_reaches_0 rfl ?_
  refine Go.if_lt 16 4 rfl dX4_reaches_1 rfl (fun hc => ?_) (fun hc => ?_)
  · replace hf := f_if hf hc
    refine Go.iconst (0 : Int32) 17 rfl dX4_reaches_16 ci_0 ?_
    exact Go.zr rfl (Or.inl rfl) dX4_reaches_17 hf
  · replace hf := f_el hf hc
    refine Go.iload_n 1 5 rfl dX4_reaches_4 rfl ?_
    refine Go.aload_n 0 6 rfl dX4_reaches_5 rfl ?_
    refine Go.getI 9 rfl dX4_reaches_6 fl_X4_9 rfl (isT_lt ha0) (isT_sh ha0) ?_
    refine Go.icmp_ge 16 12 rfl dX4_reaches_9 rfl (fun hc => ?_) (fun hc => ?_)
    · replace hf := f_if hf hc
      refine Go.iconst (0 : Int32) 17 rfl dX4_reaches_16 ci_0 ?_
      exact Go.zr rfl (Or.inl rfl) dX4_reaches_17 hf
    · replace hf := f_el hf hc
      refine Go.iconst (1 : Int32) 13 rfl dX4_reaches_12 ci_1 ?_
      refine Go.goto 17 dX4_reaches_13 rfl ?_
      exact Go.zr rfl (Or.inr rfl) dX4_reaches_17 hf
theorem dX4_begin_0 : decode cX4_begin 0 = .ok (.aload_n 0, 1) := by decide +kernel
theorem dX4_begin_1 : decode cX4_begin 1 = .ok (.getfield 21, 3) := by decide +kernel
theorem dX4_begin_4 : decode cX4_begin 4 = .ok (.iload_n 2, 1) := by decide +kernel
theorem dX4_begin_5 : decode cX4_begin 5 = .ok (.invokestatic 25, 3) := by decide +kernel
theorem dX4_begin_8 : decode cX4_begin 8 = .ok (.aload_n 0, 1) := by decide +kernel
theorem dX4_begin_9 : decode cX4_begin 9 = .ok (.iconst 0, 1) := by decide +kernel
theorem dX4_begin_10 : decode cX4_begin 10 = .ok (.iload_n 1, 1) := by decide +kernel
theorem dX4_begin_11 : decode cX4_begin 11 = .ok (.aload_n 0, 1) := by decide +kernel
theorem dX4_begin_12 : decode cX4_begin 12 = .ok (.getfield 21, 3) := by decide +kernel
theorem dX4_begin_15 : decode cX4_begin 15 = .ok (.arraylength, 1) := by decide +kernel
theorem dX4_begin_16 : decode cX4_begin 16 = .ok (.invokestatic 31, 3) := by decide +kernel
theorem dX4_begin_19 : decode cX4_begin 19 = .ok (.invokestatic 15, 3) := by decide +kernel
theorem dX4_begin_22 : decode cX4_begin 22 = .ok (.putfield 9, 3) := by decide +kernel
theorem dX4_begin_25 : decode cX4_begin 25 = .ok (.return_, 1) := by decide +kernel
def F_X4_begin (n : Nat) (S : aSt) (a0 : Nat) (a1 : Int32) (a2 : Int32) : Option aSt :=
rfd (S.2.2 a0 0) 7 fun k1 =>
(F_J7_fill_53178 n S k1 a2).bind fun S5 =>
rfd (S5.2.2 a0 0) 7 fun k12 =>
nm (stI S5 a0 1 (if (0 : Int32) < (if (Int32.ofNat (SH k12).2) < a1 then (Int32.ofNat (SH k12).2) else a1) then (if (Int32.ofNat (SH k12).2) < a1 then (Int32.ofNat (SH k12).2) else a1) else (0 : Int32))) fun S22 =>
some S22
set_option maxHeartbeats 4000000 in
set_option maxRecDepth 100000 in
theorem C_X4_begin (G : aG) (l : Launch) (n : Nat) (S : aSt) (a0 : Nat) (a1 : Int32) (a2 : Int32) (Sr : aSt) (ha0 : isT a0 3 = true) (hf : F_X4_begin n S a0 a1 a2 = some Sr) : Ctr G l yX4_begin mX4_begin (rmM 2) 97 97 S [.ref a0, .int a1, .int a2] none Sr := by
  refine Ctr.of (by decide) rfl rfl (Nat.le_of_ble_eq_true rfl) [(0, .ref a0), (1, .int a1), (2, .int a2)] rfl ?_
  unfold F_X4_begin at hf
  refine Go.aload_n 0 1 rfl dX4_begin_0 rfl ?_
  obtain ⟨k1, qk1, hk1, hf⟩ := f_rfd hf
  refine Go.getR 4 rfl dX4_begin_1 fl_X4_21 rfl (isT_lt ha0) (isT_sh ha0) qk1 ?_
  refine Go.iload_n 2 5 rfl dX4_begin_4 rfl ?_
  obtain ⟨S5, eS5, hf⟩ := f_bnd hf
  refine Go.cSv 8 [.ref k1, .int a2] [] (C_J7_fill_53178 G l n S k1 a2 S5 hk1 eS5) rfl dX4_begin_5 cx_X4_25 (by decide) (by decide) rfl (Nat.le_of_ble_eq_true rfl) ?_
  refine Go.aload_n 0 9 rfl dX4_begin_8 rfl ?_
  refine Go.iconst (0 : Int32) 10 rfl dX4_begin_9 ci_0 ?_
  refine Go.iload_n 1 11 rfl dX4_begin_10 rfl ?_
  refine Go.aload_n 0 12 rfl dX4_begin_11 rfl ?_
  obtain ⟨k12, qk12, hk12, hf⟩ := f_rfd hf
  refine Go.getR 15 rfl dX4_begin_12 fl_X4_21 rfl (isT_lt ha0) (isT_sh ha0) qk12 ?_
  refine Go.alenI 16 rfl dX4_begin_15 (isT_lt hk12) (isT_sh hk12) ?_
  refine Go.mmin 19 rfl dX4_begin_16 (am_mem 304 (by decide +kernel) rfl) (am_mem 305 (by decide +kernel) rfl) (am_mem 59 (by decide +kernel) rfl) (am_mem 306 (by decide +kernel) rfl) (Nat.le_of_ble_eq_true rfl) ?_
  refine Go.mmax 22 rfl dX4_begin_19 (am_mem 236 (by decide +kernel) rfl) (am_mem 237 (by decide +kernel) rfl) (am_mem 59 (by decide +kernel) rfl) (am_mem 238 (by decide +kernel) rfl) (Nat.le_of_ble_eq_true rfl) ?_
  obtain ⟨S22, eS22, hf⟩ := f_nm hf
  refine Go.putI 25 rfl dX4_begin_22 fp_X4_9 rfl (isT_lt ha0) (isT_sh ha0) (fun h => by cases h) (Go.stt S22 eS22 ?_)
  exact Go.vr rfl dX4_begin_25 hf
theorem dX4_layAt_0 : decode cX4_layAt 0 = .ok (.aload_n 0, 1) := by decide +kernel
theorem dX4_layAt_1 : decode cX4_layAt 1 = .ok (.iload_n 1, 1) := by decide +kernel
theorem dX4_layAt_2 : decode cX4_layAt 2 = .ok (.invokevirtual 34, 3) := by decide +kernel
theorem dX4_layAt_5 : decode cX4_layAt 5 = .ok (.ifCond .eq 10, 3) := by decide +kernel
theorem dX4_layAt_8 : decode cX4_layAt 8 = .ok (.aload_n 0, 1) := by decide +kernel
theorem dX4_layAt_9 : decode cX4_layAt 9 = .ok (.getfield 21, 3) := by decide +kernel
theorem dX4_layAt_12 : decode cX4_layAt 12 = .ok (.iload_n 1, 1) := by decide +kernel
theorem dX4_layAt_13 : decode cX4_layAt 13 = .ok (.iload_n 2, 1) := by decide +kernel
theorem dX4_layAt_14 : decode cX4_layAt 14 = .ok (.iastore, 1) := by decide +kernel
theorem dX4_layAt_15 : decode cX4_layAt 15 = .ok (.return_, 1) := by decide +kernel
def F_X4_layAt (n : Nat) (S : aSt) (a0 : Nat) (a1 : Int32) (a2 : Int32) : Option aSt :=
(F_X4_reaches n S a0 a1).bind fun r2 =>
if r2 = 0 then (some S) else
rfd (S.2.2 a0 0) 7 fun k9 =>
grd (inb a1 (SH k9).2) <|
nm (stI S k9 a1.toNatClampNeg a2) fun S14 =>
some S14
set_option maxHeartbeats 4000000 in
set_option maxRecDepth 100000 in
theorem C_X4_layAt (G : aG) (l : Launch) (n : Nat) (S : aSt) (a0 : Nat) (a1 : Int32) (a2 : Int32) (Sr : aSt) (ha0 : isT a0 3 = true) (hf : F_X4_layAt n S a0 a1 a2 = some Sr) : Ctr G l yX4_layAt mX4_layAt (rmM 2) 97 97 S [.ref a0, .int a1, .int a2] none Sr := by
  refine Ctr.of (by decide) rfl rfl (Nat.le_of_ble_eq_true rfl) [(0, .ref a0), (1, .int a1), (2, .int a2)] rfl ?_
  unfold F_X4_layAt at hf
  refine Go.aload_n 0 1 rfl dX4_layAt_0 rfl ?_
  refine Go.iload_n 1 2 rfl dX4_layAt_1 rfl ?_
  obtain ⟨r2, er2, hf⟩ := f_bnd hf
  refine Go.cV 5 [.int a1] [] (C_X4_reaches G l n S a0 a1 r2 ha0 er2) rfl dX4_layAt_2 cv_X4_34 ha0 (by decide) (by decide) rfl (Nat.le_of_ble_eq_true rfl) ?_
  refine Go.if_eq 15 8 rfl dX4_layAt_5 rfl (fun hc => ?_) (fun hc => ?_)
  · replace hf := f_if hf hc
    exact Go.vr rfl dX4_layAt_15 hf
  · replace hf := f_el hf hc
    refine Go.aload_n 0 9 rfl dX4_layAt_8 rfl ?_
    obtain ⟨k9, qk9, hk9, hf⟩ := f_rfd hf
    refine Go.getR 12 rfl dX4_layAt_9 fl_X4_21 rfl (isT_lt ha0) (isT_sh ha0) qk9 ?_
    refine Go.iload_n 1 13 rfl dX4_layAt_12 rfl ?_
    refine Go.iload_n 2 14 rfl dX4_layAt_13 rfl ?_
    obtain ⟨g14, hf⟩ := f_grd hf
    obtain ⟨S14, eS14, hf⟩ := f_nm hf
    refine Go.iast 15 rfl dX4_layAt_14 (isT_lt hk9) (isT_sh hk9) g14 (Go.stt S14 eS14 ?_)
    exact Go.vr rfl dX4_layAt_15 hf
theorem dX4_isThere_0 : decode cX4_isThere 0 = .ok (.aload_n 0, 1) := by decide +kernel
theorem dX4_isThere_1 : decode cX4_isThere 1 = .ok (.getfield 9, 3) := by decide +kernel
theorem dX4_isThere_4 : decode cX4_isThere 4 = .ok (.iconst (-1), 1) := by decide +kernel
theorem dX4_isThere_5 : decode cX4_isThere 5 = .ok (.if_icmp .eq 7, 3) := by decide +kernel
theorem dX4_isThere_8 : decode cX4_isThere 8 = .ok (.iconst 1, 1) := by decide +kernel
theorem dX4_isThere_9 : decode cX4_isThere 9 = .ok (.goto 4, 3) := by decide +kernel
theorem dX4_isThere_12 : decode cX4_isThere 12 = .ok (.iconst 0, 1) := by decide +kernel
theorem dX4_isThere_13 : decode cX4_isThere 13 = .ok (.ireturn, 1) := by decide +kernel
def F_X4_isThere (n : Nat) (S : aSt) (a0 : Nat) : Option Int32 :=
if (S.1 a0 1) = (-1 : Int32) then (some (0 : Int32)) else
some (1 : Int32)
set_option maxHeartbeats 4000000 in
set_option maxRecDepth 100000 in
theorem C_X4_isThere (G : aG) (l : Launch) (n : Nat) (S : aSt) (a0 : Nat) (r : Int32) (ha0 : isT a0 3 = true) (hf : F_X4_isThere n S a0 = some r) : Ctr G l yX4_isThere mX4_isThere (rmM 1) 97 97 S [.ref a0] (some (.int r)) S := by
  refine Ctr.of (by decide) rfl rfl (Nat.le_of_ble_eq_true rfl) [(0, .ref a0)] rfl ?_
  unfold F_X4_isThere at hf
  refine Go.aload_n 0 1 rfl dX4_isThere_0 rfl ?_
  refine Go.getI 4 rfl dX4_isThere_1 fl_X4_9 rfl (isT_lt ha0) (isT_sh ha0) ?_
  refine Go.iconst (-1 : Int32) 5 rfl dX4_isThere_4 ci_m1 ?_
  refine Go.icmp_eq 12 8 rfl dX4_isThere_5 rfl (fun hc => ?_) (fun hc => ?_)
  · replace hf := f_if hf hc
    refine Go.iconst (0 : Int32) 13 rfl dX4_isThere_12 ci_0 ?_
    exact Go.zr rfl (Or.inl rfl) dX4_isThere_13 hf
  · replace hf := f_el hf hc
    refine Go.iconst (1 : Int32) 9 rfl dX4_isThere_8 ci_1 ?_
    refine Go.goto 13 dX4_isThere_9 rfl ?_
    exact Go.zr rfl (Or.inr rfl) dX4_isThere_13 hf
theorem dX4_holds_0 : decode cX4_holds 0 = .ok (.iload_n 1, 1) := by decide +kernel
theorem dX4_holds_1 : decode cX4_holds 1 = .ok (.ifCond .lt 29, 3) := by decide +kernel
theorem dX4_holds_4 : decode cX4_holds 4 = .ok (.iload_n 2, 1) := by decide +kernel
theorem dX4_holds_5 : decode cX4_holds 5 = .ok (.ifCond .lt 25, 3) := by decide +kernel
theorem dX4_holds_8 : decode cX4_holds 8 = .ok (.iload_n 2, 1) := by decide +kernel
theorem dX4_holds_9 : decode cX4_holds 9 = .ok (.aload_n 0, 1) := by decide +kernel
theorem dX4_holds_10 : decode cX4_holds 10 = .ok (.getfield 9, 3) := by decide +kernel
theorem dX4_holds_13 : decode cX4_holds 13 = .ok (.if_icmp .gt 17, 3) := by decide +kernel
theorem dX4_holds_16 : decode cX4_holds 16 = .ok (.iload_n 1, 1) := by decide +kernel
theorem dX4_holds_17 : decode cX4_holds 17 = .ok (.aload_n 0, 1) := by decide +kernel
theorem dX4_holds_18 : decode cX4_holds 18 = .ok (.getfield 9, 3) := by decide +kernel
theorem dX4_holds_21 : decode cX4_holds 21 = .ok (.iload_n 2, 1) := by decide +kernel
theorem dX4_holds_22 : decode cX4_holds 22 = .ok (.isub, 1) := by decide +kernel
theorem dX4_holds_23 : decode cX4_holds 23 = .ok (.if_icmp .gt 7, 3) := by decide +kernel
theorem dX4_holds_26 : decode cX4_holds 26 = .ok (.iconst 1, 1) := by decide +kernel
theorem dX4_holds_27 : decode cX4_holds 27 = .ok (.goto 4, 3) := by decide +kernel
theorem dX4_holds_30 : decode cX4_holds 30 = .ok (.iconst 0, 1) := by decide +kernel
theorem dX4_holds_31 : decode cX4_holds 31 = .ok (.ireturn, 1) := by decide +kernel
def F_X4_holds (n : Nat) (S : aSt) (a0 : Nat) (a1 : Int32) (a2 : Int32) : Option Int32 :=
if a1 < 0 then (some (0 : Int32)) else
if a2 < 0 then (some (0 : Int32)) else
if (S.1 a0 1) < a2 then (some (0 : Int32)) else
if ((S.1 a0 1) - a2) < a1 then (some (0 : Int32)) else
some (1 : Int32)
set_option maxHeartbeats 4000000 in
set_option maxRecDepth 100000 in
theorem C_X4_holds (G : aG) (l : Launch) (n : Nat) (S : aSt) (a0 : Nat) (a1 : Int32) (a2 : Int32) (r : Int32) (ha0 : isT a0 3 = true) (hf : F_X4_holds n S a0 a1 a2 = some r) : Ctr G l yX4_holds mX4_holds (rmM 1) 97 97 S [.ref a0, .int a1, .int a2] (some (.int r)) S := by
  refine Ctr.of (by decide) rfl rfl (Nat.le_of_ble_eq_true rfl) [(0, .ref a0), (1, .int a1), (2, .int a2)] rfl ?_
  unfold F_X4_holds at hf
  refine Go.iload_n 1 1 rfl dX4_holds_0 rfl ?_
  refine Go.if_lt 30 4 rfl dX4_holds_1 rfl (fun hc => ?_) (fun hc => ?_)
  · replace hf := f_if hf hc
    refine Go.iconst (0 : Int32) 31 rfl dX4_holds_30 ci_0 ?_
    exact Go.zr rfl (Or.inl rfl) dX4_holds_31 hf
  · replace hf := f_el hf hc
    refine Go.iload_n 2 5 rfl dX4_holds_4 rfl ?_
    refine Go.if_lt 30 8 rfl dX4_holds_5 rfl (fun hc => ?_) (fun hc => ?_)
    · replace hf := f_if hf hc
      refine Go.iconst (0 : Int32) 31 rfl dX4_holds_30 ci_0 ?_
      exact Go.zr rfl (Or.inl rfl) dX4_holds_31 hf
    · replace hf := f_el hf hc
      refine Go.iload_n 2 9 rfl dX4_holds_8 rfl ?_
      refine Go.aload_n 0 10 rfl dX4_holds_9 rfl ?_
      refine Go.getI 13 rfl dX4_holds_10 fl_X4_9 rfl (isT_lt ha0) (isT_sh ha0) ?_
      refine Go.icmp_gt 30 16 rfl dX4_holds_13 rfl (fun hc => ?_) (fun hc => ?_)
      · replace hf := f_if hf hc
        refine Go.iconst (0 : Int32) 31 rfl dX4_holds_30 ci_0 ?_
        exact Go.zr rfl (Or.inl rfl) dX4_holds_31 hf
      · replace hf := f_el hf hc
        refine Go.iload_n 1 17 rfl dX4_holds_16 rfl ?_
        refine Go.aload_n 0 18 rfl dX4_holds_17 rfl ?_
        refine Go.getI 21 rfl dX4_holds_18 fl_X4_9 rfl (isT_lt ha0) (isT_sh ha0) ?_
        refine Go.iload_n 2 22 rfl dX4_holds_21 rfl ?_
        refine Go.isub 23 rfl dX4_holds_22 ?_
        refine Go.icmp_gt 30 26 rfl dX4_holds_23 rfl (fun hc => ?_) (fun hc => ?_)
        · replace hf := f_if hf hc
          refine Go.iconst (0 : Int32) 31 rfl dX4_holds_30 ci_0 ?_
          exact Go.zr rfl (Or.inl rfl) dX4_holds_31 hf
        · replace hf := f_el hf hc
          refine Go.iconst (1 : Int32) 27 rfl dX4_holds_26 ci_1 ?_
          refine Go.goto 31 dX4_holds_27 rfl ?_
          exact Go.zr rfl (Or.inr rfl) dX4_holds_31 hf
theorem dX4_foldInto_0 : decode cX4_foldInto 0 = .ok (.ldc2_w 38, 3) := by decide +kernel
theorem dX4_foldInto_3 : decode cX4_foldInto 3 = .ok (.lload_n 1, 1) := by decide +kernel
theorem dX4_foldInto_4 : decode cX4_foldInto 4 = .ok (.lmul, 1) := by decide +kernel
theorem dX4_foldInto_5 : decode cX4_foldInto 5 = .ok (.aload_n 0, 1) := by decide +kernel
theorem dX4_foldInto_6 : decode cX4_foldInto 6 = .ok (.getfield 9, 3) := by decide +kernel
theorem dX4_foldInto_9 : decode cX4_foldInto 9 = .ok (.i2l, 1) := by decide +kernel
theorem dX4_foldInto_10 : decode cX4_foldInto 10 = .ok (.ladd, 1) := by decide +kernel
theorem dX4_foldInto_11 : decode cX4_foldInto 11 = .ok (.lstore_n 3, 1) := by decide +kernel
theorem dX4_foldInto_12 : decode cX4_foldInto 12 = .ok (.iconst 0, 1) := by decide +kernel
theorem dX4_foldInto_13 : decode cX4_foldInto 13 = .ok (.istore 5, 2) := by decide +kernel
theorem dX4_foldInto_15 : decode cX4_foldInto 15 = .ok (.iload 5, 2) := by decide +kernel
theorem dX4_foldInto_17 : decode cX4_foldInto 17 = .ok (.aload_n 0, 1) := by decide +kernel
theorem dX4_foldInto_18 : decode cX4_foldInto 18 = .ok (.getfield 9, 3) := by decide +kernel
theorem dX4_foldInto_21 : decode cX4_foldInto 21 = .ok (.if_icmp .ge 24, 3) := by decide +kernel
theorem dX4_foldInto_24 : decode cX4_foldInto 24 = .ok (.ldc2_w 38, 3) := by decide +kernel
theorem dX4_foldInto_27 : decode cX4_foldInto 27 = .ok (.lload_n 3, 1) := by decide +kernel
theorem dX4_foldInto_28 : decode cX4_foldInto 28 = .ok (.lmul, 1) := by decide +kernel
theorem dX4_foldInto_29 : decode cX4_foldInto 29 = .ok (.aload_n 0, 1) := by decide +kernel
theorem dX4_foldInto_30 : decode cX4_foldInto 30 = .ok (.getfield 21, 3) := by decide +kernel
theorem dX4_foldInto_33 : decode cX4_foldInto 33 = .ok (.iload 5, 2) := by decide +kernel
theorem dX4_foldInto_35 : decode cX4_foldInto 35 = .ok (.iaload, 1) := by decide +kernel
theorem dX4_foldInto_36 : decode cX4_foldInto 36 = .ok (.i2l, 1) := by decide +kernel
theorem dX4_foldInto_37 : decode cX4_foldInto 37 = .ok (.ladd, 1) := by decide +kernel
theorem dX4_foldInto_38 : decode cX4_foldInto 38 = .ok (.lstore_n 3, 1) := by decide +kernel
theorem dX4_foldInto_39 : decode cX4_foldInto 39 = .ok (.iinc 5 1, 3) := by decide +kernel
theorem dX4_foldInto_42 : decode cX4_foldInto 42 = .ok (.goto (-27), 3) := by decide +kernel
theorem dX4_foldInto_45 : decode cX4_foldInto 45 = .ok (.lload_n 3, 1) := by decide +kernel
theorem dX4_foldInto_46 : decode cX4_foldInto 46 = .ok (.lreturn, 1) := by decide +kernel
def F_X4_foldInto_L15 (S : aSt) (a0 : Nat) (K45 : Int64 → Option Int64) : Nat → Int64 → Int32 → Option Int64
  | 0, _, _ => none
  | fu + 1, l15_3, l15_5 =>
    if (S.1 a0 1) ≤ l15_5 then (K45 l15_3) else
    rfd (S.2.2 a0 0) 7 fun k30 =>
    grd (inb l15_5 (SH k30).2) <|
    nm (((31 : Int64) * l15_3) + (S.1 k30 l15_5.toNatClampNeg).toInt64) fun v38 =>
    F_X4_foldInto_L15 S a0 K45 fu v38 (l15_5 + (1 : Int32))
def F_X4_foldInto (n : Nat) (S : aSt) (a0 : Nat) (a1 : Int64) : Option Int64 :=
nm (((31 : Int64) * a1) + (S.1 a0 1).toInt64) fun v11 =>
jn (fun (x45_3 : Int64) => (some x45_3 : Option Int64)) fun K45 =>
F_X4_foldInto_L15 S a0 K45 n v11 (0 : Int32)
set_option maxHeartbeats 4000000 in
set_option maxRecDepth 100000 in
theorem C_X4_foldInto (G : aG) (l : Launch) (n : Nat) (S : aSt) (a0 : Nat) (a1 : Int64) (r : Int64) (ha0 : isT a0 3 = true) (hf : F_X4_foldInto n S a0 a1 = some r) : Ctr G l yX4_foldInto mX4_foldInto (rmM 1) 97 97 S [.ref a0, .long a1] (some (.long r)) S := by
  refine Ctr.of (by decide) rfl rfl (Nat.le_of_ble_eq_true rfl) [(0, .ref a0), (1, .long a1)] rfl ?_
  unfold F_X4_foldInto at hf
  refine Go.ldc2 (31 : Int64) 3 rfl dX4_foldInto_0 (am_mem 831 (by decide +kernel) rfl) ?_
  refine Go.lload_n 1 4 rfl dX4_foldInto_3 rfl ?_
  refine Go.lmul 5 rfl dX4_foldInto_4 ?_
  refine Go.aload_n 0 6 rfl dX4_foldInto_5 rfl ?_
  refine Go.getI 9 rfl dX4_foldInto_6 fl_X4_9 rfl (isT_lt ha0) (isT_sh ha0) ?_
  refine Go.i2l 10 rfl dX4_foldInto_9 ?_
  refine Go.ladd 11 rfl dX4_foldInto_10 ?_
  obtain ⟨v11, ev11, hf⟩ := f_nm hf
  refine Go.topl v11 ev11 ?_
  refine Go.lstore_n 12 [(3, .long v11), (0, .ref a0), (1, .long a1)] rfl dX4_foldInto_11 (by decide) rfl ?_
  refine Go.iconst (0 : Int32) 13 rfl dX4_foldInto_12 ci_0 ?_
  refine Go.istore 15 [(5, .int (0 : Int32)), (3, .long v11), (0, .ref a0), (1, .long a1)] rfl dX4_foldInto_13 (by decide) rfl ?_
  obtain ⟨K45, eK45, hf⟩ := f_jn hf
  have J45 : ∀ (x45_3 : Int64), K45 x45_3 = some r → GoM G l 1 (TmR G (some (.long r)) 97 S 0 0) mX4_foldInto 45 [(3, .long x45_3)] [] S := by
    intro x45_3 hf
    rw [eK45] at hf
    refine Go.lload_n 0 46 rfl dX4_foldInto_45 rfl ?_
    exact Go.lr rfl dX4_foldInto_46 hf
  clear eK45
  have L15 : ∀ (fu : Nat) (l15_3 : Int64) (l15_5 : Int32), F_X4_foldInto_L15 S a0 K45 fu l15_3 l15_5 = some r → GoM G l 1 (TmR G (some (.long r)) 97 S 0 0) mX4_foldInto 15 [(0, .ref a0), (3, .long l15_3), (5, .int l15_5)] [] S := by
    intro fu
    induction fu with
    | zero => intro l15_3 l15_5 hf; rw [F_X4_foldInto_L15] at hf; cases hf
    | succ fu ih =>
      intro l15_3 l15_5 hf
      rw [F_X4_foldInto_L15] at hf
      refine Go.iload 2 17 rfl dX4_foldInto_15 rfl ?_
      refine Go.aload_n 0 18 rfl dX4_foldInto_17 rfl ?_
      refine Go.getI 21 rfl dX4_foldInto_18 fl_X4_9 rfl (isT_lt ha0) (isT_sh ha0) ?_
      refine Go.icmp_ge 45 24 rfl dX4_foldInto_21 rfl (fun hc => ?_) (fun hc => ?_)
      · replace hf := f_if hf hc
        exact Go.sub [1] [(3, .long l15_3)] rfl (J45 l15_3 hf)
      · replace hf := f_el hf hc
        refine Go.ldc2 (31 : Int64) 27 rfl dX4_foldInto_24 (am_mem 831 (by decide +kernel) rfl) ?_
        refine Go.lload_n 1 28 rfl dX4_foldInto_27 rfl ?_
        refine Go.lmul 29 rfl dX4_foldInto_28 ?_
        refine Go.aload_n 0 30 rfl dX4_foldInto_29 rfl ?_
        obtain ⟨k30, qk30, hk30, hf⟩ := f_rfd hf
        refine Go.getR 33 rfl dX4_foldInto_30 fl_X4_21 rfl (isT_lt ha0) (isT_sh ha0) qk30 ?_
        refine Go.iload 2 35 rfl dX4_foldInto_33 rfl ?_
        obtain ⟨g35, hf⟩ := f_grd hf
        refine Go.iald 36 rfl dX4_foldInto_35 (isT_lt hk30) (isT_sh hk30) g35 ?_
        refine Go.i2l 37 rfl dX4_foldInto_36 ?_
        refine Go.ladd 38 rfl dX4_foldInto_37 ?_
        obtain ⟨v38, ev38, hf⟩ := f_nm hf
        refine Go.topl v38 ev38 ?_
        refine Go.lstore_n 39 [(3, .long v38), (0, .ref a0), (5, .int l15_5)] rfl dX4_foldInto_38 (by decide) rfl ?_
        refine Go.inc 2 42 (1 : Int32) [(5, .int (l15_5 + (1 : Int32))), (3, .long v38), (0, .ref a0)] rfl dX4_foldInto_39 rfl ci_1 (by decide) rfl ?_
        refine Go.goto 15 dX4_foldInto_42 rfl ?_
        exact Go.sub [2, 1, 0] [(0, .ref a0), (3, .long v38), (5, .int (l15_5 + (1 : Int32)))] rfl (ih v38 (l15_5 + (1 : Int32)) hf)
  exact Go.sub [2, 1, 0] [(0, .ref a0), (3, .long v11), (5, .int (0 : Int32))] rfl (L15 n v11 (0 : Int32) hf)
