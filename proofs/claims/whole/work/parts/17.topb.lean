/-! written by program: X6_age X6_truth X6_fits X6_take X6_bring X6_undo X6_right X6_isPlaceKept X6_keep X6_on X6_match X6_wished X6_fullest X6_may X6_sure X6_test X6_greatestShared X6_tellChances X6_odds X6_worlds -/
theorem dX6_age_0 : decode cX6_age 0 = .ok (.aload_n 0, 1) := by decide +kernel
theorem dX6_age_1 : decode cX6_age 1 = .ok (.getfield 45, 3) := by decide +kernel
theorem dX6_age_4 : decode cX6_age 4 = .ok (.iload_n 1, 1) := by decide +kernel
theorem dX6_age_5 : decode cX6_age 5 = .ok (.invokevirtual 118, 3) := by decide +kernel
theorem dX6_age_8 : decode cX6_age 8 = .ok (.ifCond .eq 13, 3) := by decide +kernel
theorem dX6_age_11 : decode cX6_age 11 = .ok (.iload_n 2, 1) := by decide +kernel
theorem dX6_age_12 : decode cX6_age 12 = .ok (.ifCond .lt 9, 3) := by decide +kernel
theorem dX6_age_15 : decode cX6_age 15 = .ok (.iload_n 2, 1) := by decide +kernel
theorem dX6_age_16 : decode cX6_age 16 = .ok (.bipush 10, 2) := by decide +kernel
theorem dX6_age_18 : decode cX6_age 18 = .ok (.if_icmp .lt 5, 3) := by decide +kernel
theorem dX6_age_21 : decode cX6_age 21 = .ok (.iconst (-1), 1) := by decide +kernel
theorem dX6_age_22 : decode cX6_age 22 = .ok (.ireturn, 1) := by decide +kernel
theorem dX6_age_23 : decode cX6_age 23 = .ok (.aload_n 0, 1) := by decide +kernel
theorem dX6_age_24 : decode cX6_age 24 = .ok (.getfield 45, 3) := by decide +kernel
theorem dX6_age_27 : decode cX6_age 27 = .ok (.getfield 142, 3) := by decide +kernel
theorem dX6_age_30 : decode cX6_age 30 = .ok (.getfield 149, 3) := by decide +kernel
theorem dX6_age_33 : decode cX6_age 33 = .ok (.iload_n 1, 1) := by decide +kernel
theorem dX6_age_34 : decode cX6_age 34 = .ok (.iaload, 1) := by decide +kernel
theorem dX6_age_35 : decode cX6_age 35 = .ok (.istore_n 3, 1) := by decide +kernel
theorem dX6_age_36 : decode cX6_age 36 = .ok (.aload_n 0, 1) := by decide +kernel
theorem dX6_age_37 : decode cX6_age 37 = .ok (.getfield 45, 3) := by decide +kernel
theorem dX6_age_40 : decode cX6_age 40 = .ok (.getfield 142, 3) := by decide +kernel
theorem dX6_age_43 : decode cX6_age 43 = .ok (.getfield 149, 3) := by decide +kernel
theorem dX6_age_46 : decode cX6_age 46 = .ok (.iload_n 1, 1) := by decide +kernel
theorem dX6_age_47 : decode cX6_age 47 = .ok (.iload_n 2, 1) := by decide +kernel
theorem dX6_age_48 : decode cX6_age 48 = .ok (.iastore, 1) := by decide +kernel
theorem dX6_age_49 : decode cX6_age 49 = .ok (.iload_n 3, 1) := by decide +kernel
theorem dX6_age_50 : decode cX6_age 50 = .ok (.ireturn, 1) := by decide +kernel
def F_X6_age (n : Nat) (S : aSt) (a0 : Nat) (a1 : Int32) (a2 : Int32) : Option (Int32 × aSt) :=
rfd (S.2.2 a0 6) 0 fun k1 =>
(F_X1_isCard n S k1 a1).bind fun r5 =>
if r5 = 0 then (some ((-1 : Int32), S)) else
if a2 < 0 then (some ((-1 : Int32), S)) else
if a2 < (10 : Int32) then (rfd (S.2.2 k1 6) 4 fun k27 =>
rfd (S.2.2 k27 1) 7 fun k30 =>
grd (inb a1 (SH k30).2) <|
nm (S.1 k30 a1.toNatClampNeg) fun v35 =>
grd (inb a1 (SH k30).2) <|
nm (stI S k30 a1.toNatClampNeg a2) fun S48 =>
some (v35, S48)) else
some ((-1 : Int32), S)
set_option maxHeartbeats 4000000 in
set_option maxRecDepth 100000 in
theorem C_X6_age (G : aG) (l : Launch) (n : Nat) (S : aSt) (a0 : Nat) (a1 : Int32) (a2 : Int32) (r : Int32) (Sr : aSt) (ha0 : isT a0 5 = true) (hf : F_X6_age n S a0 a1 a2 = some (r, Sr)) : Ctr G l yX6_age mX6_age (rmM 2) 97 97 S [.ref a0, .int a1, .int a2] (some (.int r)) Sr := by
  refine Ctr.of (by decide) rfl rfl (Nat.le_of_ble_eq_true rfl) [(0, .ref a0), (1, .int a1), (2, .int a2)] rfl ?_
  unfold F_X6_age at hf
  refine Go.aload_n 0 1 rfl dX6_age_0 rfl ?_
  obtain ⟨k1, qk1, hk1, hf⟩ := f_rfd hf
  refine Go.getR 4 rfl dX6_age_1 fl_X6_45 rfl (isT_lt ha0) (isT_sh ha0) qk1 ?_
  refine Go.iload_n 1 5 rfl dX6_age_4 rfl ?_
  obtain ⟨r5, er5, hf⟩ := f_bnd hf
  refine Go.cV 8 [.int a1] [] (C_X1_isCard G l n S k1 a1 r5 hk1 er5) rfl dX6_age_5 cv_X6_118 hk1 (by decide) (by decide) rfl (Nat.le_of_ble_eq_true rfl) ?_
  refine Go.if_eq 21 11 rfl dX6_age_8 rfl (fun hc => ?_) (fun hc => ?_)
  · replace hf := f_if hf hc
    refine Go.iconst (-1 : Int32) 22 rfl dX6_age_21 ci_m1 ?_
    exact Go.irS rfl dX6_age_22 hf
  · replace hf := f_el hf hc
    refine Go.iload_n 2 12 rfl dX6_age_11 rfl ?_
    refine Go.if_lt 21 15 rfl dX6_age_12 rfl (fun hc => ?_) (fun hc => ?_)
    · replace hf := f_if hf hc
      refine Go.iconst (-1 : Int32) 22 rfl dX6_age_21 ci_m1 ?_
      exact Go.irS rfl dX6_age_22 hf
    · replace hf := f_el hf hc
      refine Go.iload_n 2 16 rfl dX6_age_15 rfl ?_
      refine Go.bipush (10 : Int32) 18 rfl dX6_age_16 cb_10 ?_
      refine Go.icmp_lt 23 21 rfl dX6_age_18 rfl (fun hc => ?_) (fun hc => ?_)
      · replace hf := f_if hf hc
        refine Go.aload_n 0 24 rfl dX6_age_23 rfl ?_
        refine Go.getR 27 rfl dX6_age_24 fl_X6_45 rfl (isT_lt ha0) (isT_sh ha0) qk1 ?_
        obtain ⟨k27, qk27, hk27, hf⟩ := f_rfd hf
        refine Go.getR 30 rfl dX6_age_27 fl_X6_142 rfl (isT_lt hk1) (isT_sh hk1) qk27 ?_
        obtain ⟨k30, qk30, hk30, hf⟩ := f_rfd hf
        refine Go.getR 33 rfl dX6_age_30 fl_X6_149 rfl (isT_lt hk27) (isT_sh hk27) qk30 ?_
        refine Go.iload_n 1 34 rfl dX6_age_33 rfl ?_
        obtain ⟨g34, hf⟩ := f_grd hf
        refine Go.iald 35 rfl dX6_age_34 (isT_lt hk30) (isT_sh hk30) g34 ?_
        obtain ⟨v35, ev35, hf⟩ := f_nm hf
        refine Go.topi v35 ev35 ?_
        refine Go.istore_n 36 [(3, .int v35), (0, .ref a0), (1, .int a1), (2, .int a2)] rfl dX6_age_35 (by decide) rfl ?_
        refine Go.aload_n 1 37 rfl dX6_age_36 rfl ?_
        refine Go.getR 40 rfl dX6_age_37 fl_X6_45 rfl (isT_lt ha0) (isT_sh ha0) qk1 ?_
        refine Go.getR 43 rfl dX6_age_40 fl_X6_142 rfl (isT_lt hk1) (isT_sh hk1) qk27 ?_
        refine Go.getR 46 rfl dX6_age_43 fl_X6_149 rfl (isT_lt hk27) (isT_sh hk27) qk30 ?_
        refine Go.iload_n 2 47 rfl dX6_age_46 rfl ?_
        refine Go.iload_n 3 48 rfl dX6_age_47 rfl ?_
        obtain ⟨g48, hf⟩ := f_grd hf
        obtain ⟨S48, eS48, hf⟩ := f_nm hf
        refine Go.iast 49 rfl dX6_age_48 (isT_lt hk30) (isT_sh hk30) g48 (Go.stt S48 eS48 ?_)
        refine Go.iload_n 0 50 rfl dX6_age_49 rfl ?_
        exact Go.irS rfl dX6_age_50 hf
      · replace hf := f_el hf hc
        refine Go.iconst (-1 : Int32) 22 rfl dX6_age_21 ci_m1 ?_
        exact Go.irS rfl dX6_age_22 hf
theorem dX6_truth_0 : decode cX6_truth 0 = .ok (.aload_n 0, 1) := by decide +kernel
theorem dX6_truth_1 : decode cX6_truth 1 = .ok (.getfield 45, 3) := by decide +kernel
theorem dX6_truth_4 : decode cX6_truth 4 = .ok (.iload_n 1, 1) := by decide +kernel
theorem dX6_truth_5 : decode cX6_truth 5 = .ok (.invokevirtual 125, 3) := by decide +kernel
theorem dX6_truth_8 : decode cX6_truth 8 = .ok (.ifCond .eq 19, 3) := by decide +kernel
theorem dX6_truth_11 : decode cX6_truth 11 = .ok (.iload_n 2, 1) := by decide +kernel
theorem dX6_truth_12 : decode cX6_truth 12 = .ok (.bipush (-9), 2) := by decide +kernel
theorem dX6_truth_14 : decode cX6_truth 14 = .ok (.if_icmp .eq 15, 3) := by decide +kernel
theorem dX6_truth_17 : decode cX6_truth 17 = .ok (.iload_n 2, 1) := by decide +kernel
theorem dX6_truth_18 : decode cX6_truth 18 = .ok (.ifCond .lt 9, 3) := by decide +kernel
theorem dX6_truth_21 : decode cX6_truth 21 = .ok (.iload_n 2, 1) := by decide +kernel
theorem dX6_truth_22 : decode cX6_truth 22 = .ok (.bipush 10, 2) := by decide +kernel
theorem dX6_truth_24 : decode cX6_truth 24 = .ok (.if_icmp .lt 5, 3) := by decide +kernel
theorem dX6_truth_27 : decode cX6_truth 27 = .ok (.iconst (-1), 1) := by decide +kernel
theorem dX6_truth_28 : decode cX6_truth 28 = .ok (.ireturn, 1) := by decide +kernel
theorem dX6_truth_29 : decode cX6_truth 29 = .ok (.aload_n 0, 1) := by decide +kernel
theorem dX6_truth_30 : decode cX6_truth 30 = .ok (.getfield 45, 3) := by decide +kernel
theorem dX6_truth_33 : decode cX6_truth 33 = .ok (.getfield 142, 3) := by decide +kernel
theorem dX6_truth_36 : decode cX6_truth 36 = .ok (.getfield 152, 3) := by decide +kernel
theorem dX6_truth_39 : decode cX6_truth 39 = .ok (.iload_n 1, 1) := by decide +kernel
theorem dX6_truth_40 : decode cX6_truth 40 = .ok (.iaload, 1) := by decide +kernel
theorem dX6_truth_41 : decode cX6_truth 41 = .ok (.istore_n 3, 1) := by decide +kernel
theorem dX6_truth_42 : decode cX6_truth 42 = .ok (.aload_n 0, 1) := by decide +kernel
theorem dX6_truth_43 : decode cX6_truth 43 = .ok (.getfield 45, 3) := by decide +kernel
theorem dX6_truth_46 : decode cX6_truth 46 = .ok (.getfield 142, 3) := by decide +kernel
theorem dX6_truth_49 : decode cX6_truth 49 = .ok (.getfield 152, 3) := by decide +kernel
theorem dX6_truth_52 : decode cX6_truth 52 = .ok (.iload_n 1, 1) := by decide +kernel
theorem dX6_truth_53 : decode cX6_truth 53 = .ok (.iload_n 2, 1) := by decide +kernel
theorem dX6_truth_54 : decode cX6_truth 54 = .ok (.iastore, 1) := by decide +kernel
theorem dX6_truth_55 : decode cX6_truth 55 = .ok (.iload_n 3, 1) := by decide +kernel
theorem dX6_truth_56 : decode cX6_truth 56 = .ok (.ireturn, 1) := by decide +kernel
def F_X6_truth (n : Nat) (S : aSt) (a0 : Nat) (a1 : Int32) (a2 : Int32) : Option (Int32 × aSt) :=
rfd (S.2.2 a0 6) 0 fun k1 =>
(F_X1_isQuestion n S k1 a1).bind fun r5 =>
if r5 = 0 then (some ((-1 : Int32), S)) else
jn ((rfd (S.2.2 k1 6) 4 fun k33 =>
rfd (S.2.2 k33 2) 7 fun k36 =>
grd (inb a1 (SH k36).2) <|
nm (S.1 k36 a1.toNatClampNeg) fun v41 =>
grd (inb a1 (SH k36).2) <|
nm (stI S k36 a1.toNatClampNeg a2) fun S54 =>
some (v41, S54) : Option (Int32 × aSt))) fun K29 =>
if a2 = (-9 : Int32) then (K29) else
if a2 < 0 then (some ((-1 : Int32), S)) else
if a2 < (10 : Int32) then (K29) else
some ((-1 : Int32), S)
set_option maxHeartbeats 4000000 in
set_option maxRecDepth 100000 in
theorem C_X6_truth (G : aG) (l : Launch) (n : Nat) (S : aSt) (a0 : Nat) (a1 : Int32) (a2 : Int32) (r : Int32) (Sr : aSt) (ha0 : isT a0 5 = true) (hf : F_X6_truth n S a0 a1 a2 = some (r, Sr)) : Ctr G l yX6_truth mX6_truth (rmM 2) 97 97 S [.ref a0, .int a1, .int a2] (some (.int r)) Sr := by
  refine Ctr.of (by decide) rfl rfl (Nat.le_of_ble_eq_true rfl) [(0, .ref a0), (1, .int a1), (2, .int a2)] rfl ?_
  unfold F_X6_truth at hf
  refine Go.aload_n 0 1 rfl dX6_truth_0 rfl ?_
  obtain ⟨k1, qk1, hk1, hf⟩ := f_rfd hf
  refine Go.getR 4 rfl dX6_truth_1 fl_X6_45 rfl (isT_lt ha0) (isT_sh ha0) qk1 ?_
  refine Go.iload_n 1 5 rfl dX6_truth_4 rfl ?_
  obtain ⟨r5, er5, hf⟩ := f_bnd hf
  refine Go.cV 8 [.int a1] [] (C_X1_isQuestion G l n S k1 a1 r5 hk1 er5) rfl dX6_truth_5 cv_X6_125 hk1 (by decide) (by decide) rfl (Nat.le_of_ble_eq_true rfl) ?_
  refine Go.if_eq 27 11 rfl dX6_truth_8 rfl (fun hc => ?_) (fun hc => ?_)
  · replace hf := f_if hf hc
    refine Go.iconst (-1 : Int32) 28 rfl dX6_truth_27 ci_m1 ?_
    exact Go.irS rfl dX6_truth_28 hf
  · replace hf := f_el hf hc
    refine Go.iload_n 2 12 rfl dX6_truth_11 rfl ?_
    refine Go.bipush (-9 : Int32) 14 rfl dX6_truth_12 cb_m9 ?_
    obtain ⟨K29, eK29, hf⟩ := f_jn hf
    have J29 : K29 = some (r, Sr) → GoM G l 2 (TmR G (some (.int r)) 97 Sr 0 0) mX6_truth 29 [(0, .ref a0), (1, .int a1), (2, .int a2)] [] S := by
      intro hf
      rw [eK29] at hf
      refine Go.aload_n 0 30 rfl dX6_truth_29 rfl ?_
      refine Go.getR 33 rfl dX6_truth_30 fl_X6_45 rfl (isT_lt ha0) (isT_sh ha0) qk1 ?_
      obtain ⟨k33, qk33, hk33, hf⟩ := f_rfd hf
      refine Go.getR 36 rfl dX6_truth_33 fl_X6_142 rfl (isT_lt hk1) (isT_sh hk1) qk33 ?_
      obtain ⟨k36, qk36, hk36, hf⟩ := f_rfd hf
      refine Go.getR 39 rfl dX6_truth_36 fl_X6_152 rfl (isT_lt hk33) (isT_sh hk33) qk36 ?_
      refine Go.iload_n 1 40 rfl dX6_truth_39 rfl ?_
      obtain ⟨g40, hf⟩ := f_grd hf
      refine Go.iald 41 rfl dX6_truth_40 (isT_lt hk36) (isT_sh hk36) g40 ?_
      obtain ⟨v41, ev41, hf⟩ := f_nm hf
      refine Go.topi v41 ev41 ?_
      refine Go.istore_n 42 [(3, .int v41), (0, .ref a0), (1, .int a1), (2, .int a2)] rfl dX6_truth_41 (by decide) rfl ?_
      refine Go.aload_n 1 43 rfl dX6_truth_42 rfl ?_
      refine Go.getR 46 rfl dX6_truth_43 fl_X6_45 rfl (isT_lt ha0) (isT_sh ha0) qk1 ?_
      refine Go.getR 49 rfl dX6_truth_46 fl_X6_142 rfl (isT_lt hk1) (isT_sh hk1) qk33 ?_
      refine Go.getR 52 rfl dX6_truth_49 fl_X6_152 rfl (isT_lt hk33) (isT_sh hk33) qk36 ?_
      refine Go.iload_n 2 53 rfl dX6_truth_52 rfl ?_
      refine Go.iload_n 3 54 rfl dX6_truth_53 rfl ?_
      obtain ⟨g54, hf⟩ := f_grd hf
      obtain ⟨S54, eS54, hf⟩ := f_nm hf
      refine Go.iast 55 rfl dX6_truth_54 (isT_lt hk36) (isT_sh hk36) g54 (Go.stt S54 eS54 ?_)
      refine Go.iload_n 0 56 rfl dX6_truth_55 rfl ?_
      exact Go.irS rfl dX6_truth_56 hf
    clear eK29
    refine Go.icmp_eq 29 17 rfl dX6_truth_14 rfl (fun hc => ?_) (fun hc => ?_)
    · replace hf := f_if hf hc
      exact J29 hf
    · replace hf := f_el hf hc
      refine Go.iload_n 2 18 rfl dX6_truth_17 rfl ?_
      refine Go.if_lt 27 21 rfl dX6_truth_18 rfl (fun hc => ?_) (fun hc => ?_)
      · replace hf := f_if hf hc
        refine Go.iconst (-1 : Int32) 28 rfl dX6_truth_27 ci_m1 ?_
        exact Go.irS rfl dX6_truth_28 hf
      · replace hf := f_el hf hc
        refine Go.iload_n 2 22 rfl dX6_truth_21 rfl ?_
        refine Go.bipush (10 : Int32) 24 rfl dX6_truth_22 cb_10 ?_
        refine Go.icmp_lt 29 27 rfl dX6_truth_24 rfl (fun hc => ?_) (fun hc => ?_)
        · replace hf := f_if hf hc
          exact J29 hf
        · replace hf := f_el hf hc
          refine Go.iconst (-1 : Int32) 28 rfl dX6_truth_27 ci_m1 ?_
          exact Go.irS rfl dX6_truth_28 hf
theorem dX6_fits_0 : decode cX6_fits 0 = .ok (.aload_n 0, 1) := by decide +kernel
theorem dX6_fits_1 : decode cX6_fits 1 = .ok (.getfield 45, 3) := by decide +kernel
theorem dX6_fits_4 : decode cX6_fits 4 = .ok (.iload_n 1, 1) := by decide +kernel
theorem dX6_fits_5 : decode cX6_fits 5 = .ok (.invokevirtual 125, 3) := by decide +kernel
theorem dX6_fits_8 : decode cX6_fits 8 = .ok (.ifCond .eq 14, 3) := by decide +kernel
theorem dX6_fits_11 : decode cX6_fits 11 = .ok (.aload_n 0, 1) := by decide +kernel
theorem dX6_fits_12 : decode cX6_fits 12 = .ok (.getfield 45, 3) := by decide +kernel
theorem dX6_fits_15 : decode cX6_fits 15 = .ok (.iload_n 1, 1) := by decide +kernel
theorem dX6_fits_16 : decode cX6_fits 16 = .ok (.invokevirtual 155, 3) := by decide +kernel
theorem dX6_fits_19 : decode cX6_fits 19 = .ok (.goto 4, 3) := by decide +kernel
theorem dX6_fits_22 : decode cX6_fits 22 = .ok (.iconst (-1), 1) := by decide +kernel
theorem dX6_fits_23 : decode cX6_fits 23 = .ok (.ireturn, 1) := by decide +kernel
def F_X6_fits (n : Nat) (S : aSt) (a0 : Nat) (a1 : Int32) : Option Int32 :=
rfd (S.2.2 a0 6) 0 fun k1 =>
(F_X1_isQuestion n S k1 a1).bind fun r5 =>
if r5 = 0 then (some (-1 : Int32)) else
(F_X1_fittingCards n S k1 a1).bind fun r16 =>
some r16
set_option maxHeartbeats 4000000 in
set_option maxRecDepth 100000 in
theorem C_X6_fits (G : aG) (l : Launch) (n : Nat) (S : aSt) (a0 : Nat) (a1 : Int32) (r : Int32) (ha0 : isT a0 5 = true) (hf : F_X6_fits n S a0 a1 = some r) : Ctr G l yX6_fits mX6_fits (rmM 5) 97 97 S [.ref a0, .int a1] (some (.int r)) S := by
  refine Ctr.of (by decide) rfl rfl (Nat.le_of_ble_eq_true rfl) [(0, .ref a0), (1, .int a1)] rfl ?_
  unfold F_X6_fits at hf
  refine Go.aload_n 0 1 rfl dX6_fits_0 rfl ?_
  obtain ⟨k1, qk1, hk1, hf⟩ := f_rfd hf
  refine Go.getR 4 rfl dX6_fits_1 fl_X6_45 rfl (isT_lt ha0) (isT_sh ha0) qk1 ?_
  refine Go.iload_n 1 5 rfl dX6_fits_4 rfl ?_
  obtain ⟨r5, er5, hf⟩ := f_bnd hf
  refine Go.cV 8 [.int a1] [] (C_X1_isQuestion G l n S k1 a1 r5 hk1 er5) rfl dX6_fits_5 cv_X6_125 hk1 (by decide) (by decide) rfl (Nat.le_of_ble_eq_true rfl) ?_
  refine Go.if_eq 22 11 rfl dX6_fits_8 rfl (fun hc => ?_) (fun hc => ?_)
  · replace hf := f_if hf hc
    refine Go.iconst (-1 : Int32) 23 rfl dX6_fits_22 ci_m1 ?_
    exact Go.ir rfl dX6_fits_23 hf
  · replace hf := f_el hf hc
    refine Go.aload_n 0 12 rfl dX6_fits_11 rfl ?_
    refine Go.getR 15 rfl dX6_fits_12 fl_X6_45 rfl (isT_lt ha0) (isT_sh ha0) qk1 ?_
    refine Go.iload_n 1 16 rfl dX6_fits_15 rfl ?_
    obtain ⟨r16, er16, hf⟩ := f_bnd hf
    refine Go.cV 19 [.int a1] [] (C_X1_fittingCards G l n S k1 a1 r16 hk1 er16) rfl dX6_fits_16 cv_X6_155 hk1 (by decide) (by decide) rfl (Nat.le_of_ble_eq_true rfl) ?_
    refine Go.goto 23 dX6_fits_19 rfl ?_
    exact Go.ir rfl dX6_fits_23 hf
theorem dX6_take_0 : decode cX6_take 0 = .ok (.aload_n 0, 1) := by decide +kernel
theorem dX6_take_1 : decode cX6_take 1 = .ok (.getfield 45, 3) := by decide +kernel
theorem dX6_take_4 : decode cX6_take 4 = .ok (.iload_n 1, 1) := by decide +kernel
theorem dX6_take_5 : decode cX6_take 5 = .ok (.invokevirtual 125, 3) := by decide +kernel
theorem dX6_take_8 : decode cX6_take 8 = .ok (.ifCond .eq 14, 3) := by decide +kernel
theorem dX6_take_11 : decode cX6_take 11 = .ok (.aload_n 0, 1) := by decide +kernel
theorem dX6_take_12 : decode cX6_take 12 = .ok (.getfield 45, 3) := by decide +kernel
theorem dX6_take_15 : decode cX6_take 15 = .ok (.iload_n 2, 1) := by decide +kernel
theorem dX6_take_16 : decode cX6_take 16 = .ok (.invokevirtual 118, 3) := by decide +kernel
theorem dX6_take_19 : decode cX6_take 19 = .ok (.ifCond .ne 5, 3) := by decide +kernel
theorem dX6_take_22 : decode cX6_take 22 = .ok (.iconst (-1), 1) := by decide +kernel
theorem dX6_take_23 : decode cX6_take 23 = .ok (.ireturn, 1) := by decide +kernel
theorem dX6_take_24 : decode cX6_take 24 = .ok (.aload_n 0, 1) := by decide +kernel
theorem dX6_take_25 : decode cX6_take 25 = .ok (.getfield 45, 3) := by decide +kernel
theorem dX6_take_28 : decode cX6_take 28 = .ok (.iload_n 2, 1) := by decide +kernel
theorem dX6_take_29 : decode cX6_take 29 = .ok (.iload_n 1, 1) := by decide +kernel
theorem dX6_take_30 : decode cX6_take 30 = .ok (.invokevirtual 158, 3) := by decide +kernel
theorem dX6_take_33 : decode cX6_take 33 = .ok (.ifCond .eq 25, 3) := by decide +kernel
theorem dX6_take_36 : decode cX6_take 36 = .ok (.aload_n 0, 1) := by decide +kernel
theorem dX6_take_37 : decode cX6_take 37 = .ok (.getfield 45, 3) := by decide +kernel
theorem dX6_take_40 : decode cX6_take 40 = .ok (.iload_n 1, 1) := by decide +kernel
theorem dX6_take_41 : decode cX6_take 41 = .ok (.invokevirtual 161, 3) := by decide +kernel
theorem dX6_take_44 : decode cX6_take 44 = .ok (.ifCond .eq 14, 3) := by decide +kernel
theorem dX6_take_47 : decode cX6_take 47 = .ok (.aload_n 0, 1) := by decide +kernel
theorem dX6_take_48 : decode cX6_take 48 = .ok (.getfield 45, 3) := by decide +kernel
theorem dX6_take_51 : decode cX6_take 51 = .ok (.iload_n 2, 1) := by decide +kernel
theorem dX6_take_52 : decode cX6_take 52 = .ok (.invokevirtual 164, 3) := by decide +kernel
theorem dX6_take_55 : decode cX6_take 55 = .ok (.ifCond .ne 6, 3) := by decide +kernel
theorem dX6_take_58 : decode cX6_take 58 = .ok (.bipush (-4), 2) := by decide +kernel
theorem dX6_take_60 : decode cX6_take 60 = .ok (.ireturn, 1) := by decide +kernel
theorem dX6_take_61 : decode cX6_take 61 = .ok (.aload_n 0, 1) := by decide +kernel
theorem dX6_take_62 : decode cX6_take 62 = .ok (.getfield 45, 3) := by decide +kernel
theorem dX6_take_65 : decode cX6_take 65 = .ok (.getfield 142, 3) := by decide +kernel
theorem dX6_take_68 : decode cX6_take 68 = .ok (.getfield 112, 3) := by decide +kernel
theorem dX6_take_71 : decode cX6_take 71 = .ok (.bipush 40, 2) := by decide +kernel
theorem dX6_take_73 : decode cX6_take 73 = .ok (.if_icmp .lt 6, 3) := by decide +kernel
theorem dX6_take_76 : decode cX6_take 76 = .ok (.bipush (-2), 2) := by decide +kernel
theorem dX6_take_78 : decode cX6_take 78 = .ok (.ireturn, 1) := by decide +kernel
theorem dX6_take_79 : decode cX6_take 79 = .ok (.aload_n 0, 1) := by decide +kernel
theorem dX6_take_80 : decode cX6_take 80 = .ok (.getfield 45, 3) := by decide +kernel
theorem dX6_take_83 : decode cX6_take 83 = .ok (.getfield 142, 3) := by decide +kernel
theorem dX6_take_86 : decode cX6_take 86 = .ok (.iload_n 1, 1) := by decide +kernel
theorem dX6_take_87 : decode cX6_take 87 = .ok (.iload_n 2, 1) := by decide +kernel
theorem dX6_take_88 : decode cX6_take 88 = .ok (.invokevirtual 167, 3) := by decide +kernel
theorem dX6_take_91 : decode cX6_take 91 = .ok (.aload_n 0, 1) := by decide +kernel
theorem dX6_take_92 : decode cX6_take 92 = .ok (.getfield 45, 3) := by decide +kernel
theorem dX6_take_95 : decode cX6_take 95 = .ok (.iload_n 1, 1) := by decide +kernel
theorem dX6_take_96 : decode cX6_take 96 = .ok (.invokevirtual 170, 3) := by decide +kernel
theorem dX6_take_99 : decode cX6_take 99 = .ok (.ireturn, 1) := by decide +kernel
def F_X6_take (n : Nat) (S : aSt) (a0 : Nat) (a1 : Int32) (a2 : Int32) : Option (Int32 × aSt) :=
rfd (S.2.2 a0 6) 0 fun k1 =>
(F_X1_isQuestion n S k1 a1).bind fun r5 =>
if r5 = 0 then (some ((-1 : Int32), S)) else
(F_X1_isCard n S k1 a2).bind fun r16 =>
if r16 = 0 then (some ((-1 : Int32), S)) else
(F_X1_isFitting n S k1 a2 a1).bind fun r30 =>
if r30 = 0 then (some ((-4 : Int32), S)) else
(F_X1_isFreeQuestion n S k1 a1).bind fun r41 =>
if r41 = 0 then (some ((-4 : Int32), S)) else
(F_X1_isFreeCard n S k1 a2).bind fun r52 =>
if r52 = 0 then (some ((-4 : Int32), S)) else
rfd (S.2.2 k1 6) 4 fun k65 =>
if (S.1 k65 6) < (40 : Int32) then ((F_X5_addTaking n S k65 a1 a2).bind fun S88 =>
rfd (S88.2.2 a0 6) 0 fun k92 =>
(F_X1_verdict n S88 k92 a1).bind fun r96 =>
some (r96, S88)) else
some ((-2 : Int32), S)
set_option maxHeartbeats 4000000 in
set_option maxRecDepth 100000 in
theorem C_X6_take (G : aG) (l : Launch) (n : Nat) (S : aSt) (a0 : Nat) (a1 : Int32) (a2 : Int32) (r : Int32) (Sr : aSt) (ha0 : isT a0 5 = true) (hf : F_X6_take n S a0 a1 a2 = some (r, Sr)) : Ctr G l yX6_take mX6_take (rmM 4) 97 97 S [.ref a0, .int a1, .int a2] (some (.int r)) Sr := by
  refine Ctr.of (by decide) rfl rfl (Nat.le_of_ble_eq_true rfl) [(0, .ref a0), (1, .int a1), (2, .int a2)] rfl ?_
  unfold F_X6_take at hf
  refine Go.aload_n 0 1 rfl dX6_take_0 rfl ?_
  obtain ⟨k1, qk1, hk1, hf⟩ := f_rfd hf
  refine Go.getR 4 rfl dX6_take_1 fl_X6_45 rfl (isT_lt ha0) (isT_sh ha0) qk1 ?_
  refine Go.iload_n 1 5 rfl dX6_take_4 rfl ?_
  obtain ⟨r5, er5, hf⟩ := f_bnd hf
  refine Go.cV 8 [.int a1] [] (C_X1_isQuestion G l n S k1 a1 r5 hk1 er5) rfl dX6_take_5 cv_X6_125 hk1 (by decide) (by decide) rfl (Nat.le_of_ble_eq_true rfl) ?_
  refine Go.if_eq 22 11 rfl dX6_take_8 rfl (fun hc => ?_) (fun hc => ?_)
  · replace hf := f_if hf hc
    refine Go.iconst (-1 : Int32) 23 rfl dX6_take_22 ci_m1 ?_
    exact Go.irS rfl dX6_take_23 hf
  · replace hf := f_el hf hc
    refine Go.aload_n 0 12 rfl dX6_take_11 rfl ?_
    refine Go.getR 15 rfl dX6_take_12 fl_X6_45 rfl (isT_lt ha0) (isT_sh ha0) qk1 ?_
    refine Go.iload_n 2 16 rfl dX6_take_15 rfl ?_
    obtain ⟨r16, er16, hf⟩ := f_bnd hf
    refine Go.cV 19 [.int a2] [] (C_X1_isCard G l n S k1 a2 r16 hk1 er16) rfl dX6_take_16 cv_X6_118 hk1 (by decide) (by decide) rfl (Nat.le_of_ble_eq_true rfl) ?_
    refine Go.if_ne 24 22 rfl dX6_take_19 rfl (fun hc => ?_) (fun hc => ?_)
    · replace hf := f_el hf hc
      refine Go.aload_n 0 25 rfl dX6_take_24 rfl ?_
      refine Go.getR 28 rfl dX6_take_25 fl_X6_45 rfl (isT_lt ha0) (isT_sh ha0) qk1 ?_
      refine Go.iload_n 2 29 rfl dX6_take_28 rfl ?_
      refine Go.iload_n 1 30 rfl dX6_take_29 rfl ?_
      obtain ⟨r30, er30, hf⟩ := f_bnd hf
      refine Go.cV 33 [.int a2, .int a1] [] (C_X1_isFitting G l n S k1 a2 a1 r30 hk1 er30) rfl dX6_take_30 cv_X6_158 hk1 (by decide) (by decide) rfl (Nat.le_of_ble_eq_true rfl) ?_
      refine Go.if_eq 58 36 rfl dX6_take_33 rfl (fun hc => ?_) (fun hc => ?_)
      · replace hf := f_if hf hc
        refine Go.bipush (-4 : Int32) 60 rfl dX6_take_58 cb_m4 ?_
        exact Go.irS rfl dX6_take_60 hf
      · replace hf := f_el hf hc
        refine Go.aload_n 0 37 rfl dX6_take_36 rfl ?_
        refine Go.getR 40 rfl dX6_take_37 fl_X6_45 rfl (isT_lt ha0) (isT_sh ha0) qk1 ?_
        refine Go.iload_n 1 41 rfl dX6_take_40 rfl ?_
        obtain ⟨r41, er41, hf⟩ := f_bnd hf
        refine Go.cV 44 [.int a1] [] (C_X1_isFreeQuestion G l n S k1 a1 r41 hk1 er41) rfl dX6_take_41 cv_X6_161 hk1 (by decide) (by decide) rfl (Nat.le_of_ble_eq_true rfl) ?_
        refine Go.if_eq 58 47 rfl dX6_take_44 rfl (fun hc => ?_) (fun hc => ?_)
        · replace hf := f_if hf hc
          refine Go.bipush (-4 : Int32) 60 rfl dX6_take_58 cb_m4 ?_
          exact Go.irS rfl dX6_take_60 hf
        · replace hf := f_el hf hc
          refine Go.aload_n 0 48 rfl dX6_take_47 rfl ?_
          refine Go.getR 51 rfl dX6_take_48 fl_X6_45 rfl (isT_lt ha0) (isT_sh ha0) qk1 ?_
          refine Go.iload_n 2 52 rfl dX6_take_51 rfl ?_
          obtain ⟨r52, er52, hf⟩ := f_bnd hf
          refine Go.cV 55 [.int a2] [] (C_X1_isFreeCard G l n S k1 a2 r52 hk1 er52) rfl dX6_take_52 cv_X6_164 hk1 (by decide) (by decide) rfl (Nat.le_of_ble_eq_true rfl) ?_
          refine Go.if_ne 61 58 rfl dX6_take_55 rfl (fun hc => ?_) (fun hc => ?_)
          · replace hf := f_el hf hc
            refine Go.aload_n 0 62 rfl dX6_take_61 rfl ?_
            refine Go.getR 65 rfl dX6_take_62 fl_X6_45 rfl (isT_lt ha0) (isT_sh ha0) qk1 ?_
            obtain ⟨k65, qk65, hk65, hf⟩ := f_rfd hf
            refine Go.getR 68 rfl dX6_take_65 fl_X6_142 rfl (isT_lt hk1) (isT_sh hk1) qk65 ?_
            refine Go.getI 71 rfl dX6_take_68 fl_X6_112 rfl (isT_lt hk65) (isT_sh hk65) ?_
            refine Go.bipush (40 : Int32) 73 rfl dX6_take_71 cb_40 ?_
            refine Go.icmp_lt 79 76 rfl dX6_take_73 rfl (fun hc => ?_) (fun hc => ?_)
            · replace hf := f_if hf hc
              refine Go.aload_n 0 80 rfl dX6_take_79 rfl ?_
              refine Go.getR 83 rfl dX6_take_80 fl_X6_45 rfl (isT_lt ha0) (isT_sh ha0) qk1 ?_
              refine Go.getR 86 rfl dX6_take_83 fl_X6_142 rfl (isT_lt hk1) (isT_sh hk1) qk65 ?_
              refine Go.iload_n 1 87 rfl dX6_take_86 rfl ?_
              refine Go.iload_n 2 88 rfl dX6_take_87 rfl ?_
              obtain ⟨S88, eS88, hf⟩ := f_bnd hf
              refine Go.cVv 91 [.int a1, .int a2] [] (C_X5_addTaking G l n S k65 a1 a2 S88 hk65 eS88) rfl dX6_take_88 cv_X6_167 hk65 (by decide) (by decide) rfl (Nat.le_of_ble_eq_true rfl) ?_
              refine Go.aload_n 0 92 rfl dX6_take_91 rfl ?_
              obtain ⟨k92, qk92, hk92, hf⟩ := f_rfd hf
              refine Go.getR 95 rfl dX6_take_92 fl_X6_45 rfl (isT_lt ha0) (isT_sh ha0) qk92 ?_
              refine Go.iload_n 1 96 rfl dX6_take_95 rfl ?_
              obtain ⟨r96, er96, hf⟩ := f_bnd hf
              refine Go.cV 99 [.int a1] [] (C_X1_verdict G l n S88 k92 a1 r96 hk92 er96) rfl dX6_take_96 cv_X6_170 hk92 (by decide) (by decide) rfl (Nat.le_of_ble_eq_true rfl) ?_
              exact Go.irS rfl dX6_take_99 hf
            · replace hf := f_el hf hc
              refine Go.bipush (-2 : Int32) 78 rfl dX6_take_76 cb_m2 ?_
              exact Go.irS rfl dX6_take_78 hf
          · replace hf := f_if hf hc
            refine Go.bipush (-4 : Int32) 60 rfl dX6_take_58 cb_m4 ?_
            exact Go.irS rfl dX6_take_60 hf
    · replace hf := f_if hf hc
      refine Go.iconst (-1 : Int32) 23 rfl dX6_take_22 ci_m1 ?_
      exact Go.irS rfl dX6_take_23 hf
theorem dX6_bring_0 : decode cX6_bring 0 = .ok (.aload_n 0, 1) := by decide +kernel
theorem dX6_bring_1 : decode cX6_bring 1 = .ok (.getfield 45, 3) := by decide +kernel
theorem dX6_bring_4 : decode cX6_bring 4 = .ok (.iload_n 1, 1) := by decide +kernel
theorem dX6_bring_5 : decode cX6_bring 5 = .ok (.invokevirtual 125, 3) := by decide +kernel
theorem dX6_bring_8 : decode cX6_bring 8 = .ok (.ifCond .ne 5, 3) := by decide +kernel
theorem dX6_bring_11 : decode cX6_bring 11 = .ok (.iconst (-1), 1) := by decide +kernel
theorem dX6_bring_12 : decode cX6_bring 12 = .ok (.ireturn, 1) := by decide +kernel
theorem dX6_bring_13 : decode cX6_bring 13 = .ok (.aload_n 0, 1) := by decide +kernel
theorem dX6_bring_14 : decode cX6_bring 14 = .ok (.getfield 45, 3) := by decide +kernel
theorem dX6_bring_17 : decode cX6_bring 17 = .ok (.iload_n 1, 1) := by decide +kernel
theorem dX6_bring_18 : decode cX6_bring 18 = .ok (.invokevirtual 161, 3) := by decide +kernel
theorem dX6_bring_21 : decode cX6_bring 21 = .ok (.ifCond .eq 6, 3) := by decide +kernel
theorem dX6_bring_24 : decode cX6_bring 24 = .ok (.bipush (-4), 2) := by decide +kernel
theorem dX6_bring_26 : decode cX6_bring 26 = .ok (.ireturn, 1) := by decide +kernel
theorem dX6_bring_27 : decode cX6_bring 27 = .ok (.aload_n 0, 1) := by decide +kernel
theorem dX6_bring_28 : decode cX6_bring 28 = .ok (.getfield 45, 3) := by decide +kernel
theorem dX6_bring_31 : decode cX6_bring 31 = .ok (.getfield 142, 3) := by decide +kernel
theorem dX6_bring_34 : decode cX6_bring 34 = .ok (.getfield 173, 3) := by decide +kernel
theorem dX6_bring_37 : decode cX6_bring 37 = .ok (.iload_n 1, 1) := by decide +kernel
theorem dX6_bring_38 : decode cX6_bring 38 = .ok (.iaload, 1) := by decide +kernel
theorem dX6_bring_39 : decode cX6_bring 39 = .ok (.istore_n 2, 1) := by decide +kernel
theorem dX6_bring_40 : decode cX6_bring 40 = .ok (.aload_n 0, 1) := by decide +kernel
theorem dX6_bring_41 : decode cX6_bring 41 = .ok (.getfield 45, 3) := by decide +kernel
theorem dX6_bring_44 : decode cX6_bring 44 = .ok (.getfield 142, 3) := by decide +kernel
theorem dX6_bring_47 : decode cX6_bring 47 = .ok (.getfield 173, 3) := by decide +kernel
theorem dX6_bring_50 : decode cX6_bring 50 = .ok (.iload_n 1, 1) := by decide +kernel
theorem dX6_bring_51 : decode cX6_bring 51 = .ok (.bipush (-9), 2) := by decide +kernel
theorem dX6_bring_53 : decode cX6_bring 53 = .ok (.iastore, 1) := by decide +kernel
theorem dX6_bring_54 : decode cX6_bring 54 = .ok (.iload_n 2, 1) := by decide +kernel
theorem dX6_bring_55 : decode cX6_bring 55 = .ok (.ireturn, 1) := by decide +kernel
def F_X6_bring (n : Nat) (S : aSt) (a0 : Nat) (a1 : Int32) : Option (Int32 × aSt) :=
rfd (S.2.2 a0 6) 0 fun k1 =>
(F_X1_isQuestion n S k1 a1).bind fun r5 =>
if r5 = 0 then (some ((-1 : Int32), S)) else
(F_X1_isFreeQuestion n S k1 a1).bind fun r18 =>
if r18 = 0 then (rfd (S.2.2 k1 6) 4 fun k31 =>
rfd (S.2.2 k31 3) 7 fun k34 =>
grd (inb a1 (SH k34).2) <|
nm (S.1 k34 a1.toNatClampNeg) fun v39 =>
grd (inb a1 (SH k34).2) <|
nm (stI S k34 a1.toNatClampNeg (-9 : Int32)) fun S53 =>
some (v39, S53)) else
some ((-4 : Int32), S)
set_option maxHeartbeats 4000000 in
set_option maxRecDepth 100000 in
theorem C_X6_bring (G : aG) (l : Launch) (n : Nat) (S : aSt) (a0 : Nat) (a1 : Int32) (r : Int32) (Sr : aSt) (ha0 : isT a0 5 = true) (hf : F_X6_bring n S a0 a1 = some (r, Sr)) : Ctr G l yX6_bring mX6_bring (rmM 2) 97 97 S [.ref a0, .int a1] (some (.int r)) Sr := by
  refine Ctr.of (by decide) rfl rfl (Nat.le_of_ble_eq_true rfl) [(0, .ref a0), (1, .int a1)] rfl ?_
  unfold F_X6_bring at hf
  refine Go.aload_n 0 1 rfl dX6_bring_0 rfl ?_
  obtain ⟨k1, qk1, hk1, hf⟩ := f_rfd hf
  refine Go.getR 4 rfl dX6_bring_1 fl_X6_45 rfl (isT_lt ha0) (isT_sh ha0) qk1 ?_
  refine Go.iload_n 1 5 rfl dX6_bring_4 rfl ?_
  obtain ⟨r5, er5, hf⟩ := f_bnd hf
  refine Go.cV 8 [.int a1] [] (C_X1_isQuestion G l n S k1 a1 r5 hk1 er5) rfl dX6_bring_5 cv_X6_125 hk1 (by decide) (by decide) rfl (Nat.le_of_ble_eq_true rfl) ?_
  refine Go.if_ne 13 11 rfl dX6_bring_8 rfl (fun hc => ?_) (fun hc => ?_)
  · replace hf := f_el hf hc
    refine Go.aload_n 0 14 rfl dX6_bring_13 rfl ?_
    refine Go.getR 17 rfl dX6_bring_14 fl_X6_45 rfl (isT_lt ha0) (isT_sh ha0) qk1 ?_
    refine Go.iload_n 1 18 rfl dX6_bring_17 rfl ?_
    obtain ⟨r18, er18, hf⟩ := f_bnd hf
    refine Go.cV 21 [.int a1] [] (C_X1_isFreeQuestion G l n S k1 a1 r18 hk1 er18) rfl dX6_bring_18 cv_X6_161 hk1 (by decide) (by decide) rfl (Nat.le_of_ble_eq_true rfl) ?_
    refine Go.if_eq 27 24 rfl dX6_bring_21 rfl (fun hc => ?_) (fun hc => ?_)
    · replace hf := f_if hf hc
      refine Go.aload_n 0 28 rfl dX6_bring_27 rfl ?_
      refine Go.getR 31 rfl dX6_bring_28 fl_X6_45 rfl (isT_lt ha0) (isT_sh ha0) qk1 ?_
      obtain ⟨k31, qk31, hk31, hf⟩ := f_rfd hf
      refine Go.getR 34 rfl dX6_bring_31 fl_X6_142 rfl (isT_lt hk1) (isT_sh hk1) qk31 ?_
      obtain ⟨k34, qk34, hk34, hf⟩ := f_rfd hf
      refine Go.getR 37 rfl dX6_bring_34 fl_X6_173 rfl (isT_lt hk31) (isT_sh hk31) qk34 ?_
      refine Go.iload_n 1 38 rfl dX6_bring_37 rfl ?_
      obtain ⟨g38, hf⟩ := f_grd hf
      refine Go.iald 39 rfl dX6_bring_38 (isT_lt hk34) (isT_sh hk34) g38 ?_
      obtain ⟨v39, ev39, hf⟩ := f_nm hf
      refine Go.topi v39 ev39 ?_
      refine Go.istore_n 40 [(2, .int v39), (0, .ref a0), (1, .int a1)] rfl dX6_bring_39 (by decide) rfl ?_
      refine Go.aload_n 1 41 rfl dX6_bring_40 rfl ?_
      refine Go.getR 44 rfl dX6_bring_41 fl_X6_45 rfl (isT_lt ha0) (isT_sh ha0) qk1 ?_
      refine Go.getR 47 rfl dX6_bring_44 fl_X6_142 rfl (isT_lt hk1) (isT_sh hk1) qk31 ?_
      refine Go.getR 50 rfl dX6_bring_47 fl_X6_173 rfl (isT_lt hk31) (isT_sh hk31) qk34 ?_
      refine Go.iload_n 2 51 rfl dX6_bring_50 rfl ?_
      refine Go.bipush (-9 : Int32) 53 rfl dX6_bring_51 cb_m9 ?_
      obtain ⟨g53, hf⟩ := f_grd hf
      obtain ⟨S53, eS53, hf⟩ := f_nm hf
      refine Go.iast 54 rfl dX6_bring_53 (isT_lt hk34) (isT_sh hk34) g53 (Go.stt S53 eS53 ?_)
      refine Go.iload_n 0 55 rfl dX6_bring_54 rfl ?_
      exact Go.irS rfl dX6_bring_55 hf
    · replace hf := f_el hf hc
      refine Go.bipush (-4 : Int32) 26 rfl dX6_bring_24 cb_m4 ?_
      exact Go.irS rfl dX6_bring_26 hf
  · replace hf := f_if hf hc
    refine Go.iconst (-1 : Int32) 12 rfl dX6_bring_11 ci_m1 ?_
    exact Go.irS rfl dX6_bring_12 hf
theorem dX6_undo_0 : decode cX6_undo 0 = .ok (.iload_n 1, 1) := by decide +kernel
theorem dX6_undo_1 : decode cX6_undo 1 = .ok (.ifCond .lt 17, 3) := by decide +kernel
theorem dX6_undo_4 : decode cX6_undo 4 = .ok (.iload_n 1, 1) := by decide +kernel
theorem dX6_undo_5 : decode cX6_undo 5 = .ok (.aload_n 0, 1) := by decide +kernel
theorem dX6_undo_6 : decode cX6_undo 6 = .ok (.getfield 45, 3) := by decide +kernel
theorem dX6_undo_9 : decode cX6_undo 9 = .ok (.getfield 142, 3) := by decide +kernel
theorem dX6_undo_12 : decode cX6_undo 12 = .ok (.getfield 112, 3) := by decide +kernel
theorem dX6_undo_15 : decode cX6_undo 15 = .ok (.if_icmp .le 5, 3) := by decide +kernel
theorem dX6_undo_18 : decode cX6_undo 18 = .ok (.iconst (-1), 1) := by decide +kernel
theorem dX6_undo_19 : decode cX6_undo 19 = .ok (.ireturn, 1) := by decide +kernel
theorem dX6_undo_20 : decode cX6_undo 20 = .ok (.aload_n 0, 1) := by decide +kernel
theorem dX6_undo_21 : decode cX6_undo 21 = .ok (.getfield 45, 3) := by decide +kernel
theorem dX6_undo_24 : decode cX6_undo 24 = .ok (.getfield 142, 3) := by decide +kernel
theorem dX6_undo_27 : decode cX6_undo 27 = .ok (.iload_n 1, 1) := by decide +kernel
theorem dX6_undo_28 : decode cX6_undo 28 = .ok (.invokevirtual 176, 3) := by decide +kernel
theorem dX6_undo_31 : decode cX6_undo 31 = .ok (.ireturn, 1) := by decide +kernel
def F_X6_undo (n : Nat) (S : aSt) (a0 : Nat) (a1 : Int32) : Option (Int32 × aSt) :=
if a1 < 0 then (some ((-1 : Int32), S)) else
rfd (S.2.2 a0 6) 0 fun k6 =>
rfd (S.2.2 k6 6) 4 fun k9 =>
if a1 ≤ (S.1 k9 6) then (bn2 (F_X5_goBack n S k9 a1) fun r28 S28 =>
some (r28, S28)) else
some ((-1 : Int32), S)
set_option maxHeartbeats 4000000 in
set_option maxRecDepth 100000 in
theorem C_X6_undo (G : aG) (l : Launch) (n : Nat) (S : aSt) (a0 : Nat) (a1 : Int32) (r : Int32) (Sr : aSt) (ha0 : isT a0 5 = true) (hf : F_X6_undo n S a0 a1 = some (r, Sr)) : Ctr G l yX6_undo mX6_undo (rmM 3) 97 97 S [.ref a0, .int a1] (some (.int r)) Sr := by
  refine Ctr.of (by decide) rfl rfl (Nat.le_of_ble_eq_true rfl) [(0, .ref a0), (1, .int a1)] rfl ?_
  unfold F_X6_undo at hf
  refine Go.iload_n 1 1 rfl dX6_undo_0 rfl ?_
  refine Go.if_lt 18 4 rfl dX6_undo_1 rfl (fun hc => ?_) (fun hc => ?_)
  · replace hf := f_if hf hc
    refine Go.iconst (-1 : Int32) 19 rfl dX6_undo_18 ci_m1 ?_
    exact Go.irS rfl dX6_undo_19 hf
  · replace hf := f_el hf hc
    refine Go.iload_n 1 5 rfl dX6_undo_4 rfl ?_
    refine Go.aload_n 0 6 rfl dX6_undo_5 rfl ?_
    obtain ⟨k6, qk6, hk6, hf⟩ := f_rfd hf
    refine Go.getR 9 rfl dX6_undo_6 fl_X6_45 rfl (isT_lt ha0) (isT_sh ha0) qk6 ?_
    obtain ⟨k9, qk9, hk9, hf⟩ := f_rfd hf
    refine Go.getR 12 rfl dX6_undo_9 fl_X6_142 rfl (isT_lt hk6) (isT_sh hk6) qk9 ?_
    refine Go.getI 15 rfl dX6_undo_12 fl_X6_112 rfl (isT_lt hk9) (isT_sh hk9) ?_
    refine Go.icmp_le 20 18 rfl dX6_undo_15 rfl (fun hc => ?_) (fun hc => ?_)
    · replace hf := f_if hf hc
      refine Go.aload_n 0 21 rfl dX6_undo_20 rfl ?_
      refine Go.getR 24 rfl dX6_undo_21 fl_X6_45 rfl (isT_lt ha0) (isT_sh ha0) qk6 ?_
      refine Go.getR 27 rfl dX6_undo_24 fl_X6_142 rfl (isT_lt hk6) (isT_sh hk6) qk9 ?_
      refine Go.iload_n 1 28 rfl dX6_undo_27 rfl ?_
      obtain ⟨r28, S28, er28, hf⟩ := f_bn2 hf
      refine Go.cV 31 [.int a1] [] (C_X5_goBack G l n S k9 a1 r28 S28 hk9 er28) rfl dX6_undo_28 cv_X6_176 hk9 (by decide) (by decide) rfl (Nat.le_of_ble_eq_true rfl) ?_
      exact Go.irS rfl dX6_undo_31 hf
    · replace hf := f_el hf hc
      refine Go.iconst (-1 : Int32) 19 rfl dX6_undo_18 ci_m1 ?_
      exact Go.irS rfl dX6_undo_19 hf
theorem dX6_right_0 : decode cX6_right 0 = .ok (.aload_n 0, 1) := by decide +kernel
theorem dX6_right_1 : decode cX6_right 1 = .ok (.aload_n 0, 1) := by decide +kernel
theorem dX6_right_2 : decode cX6_right 2 = .ok (.getfield 45, 3) := by decide +kernel
theorem dX6_right_5 : decode cX6_right 5 = .ok (.iconst 0, 1) := by decide +kernel
theorem dX6_right_6 : decode cX6_right 6 = .ok (.invokevirtual 179, 3) := by decide +kernel
theorem dX6_right_9 : decode cX6_right 9 = .ok (.putfield 52, 3) := by decide +kernel
theorem dX6_right_12 : decode cX6_right 12 = .ok (.aload_n 0, 1) := by decide +kernel
theorem dX6_right_13 : decode cX6_right 13 = .ok (.getfield 45, 3) := by decide +kernel
theorem dX6_right_16 : decode cX6_right 16 = .ok (.iconst 1, 1) := by decide +kernel
theorem dX6_right_17 : decode cX6_right 17 = .ok (.invokevirtual 179, 3) := by decide +kernel
theorem dX6_right_20 : decode cX6_right 20 = .ok (.ireturn, 1) := by decide +kernel
def F_X6_right (n : Nat) (S : aSt) (a0 : Nat) : Option (Int32 × aSt) :=
rfd (S.2.2 a0 6) 0 fun k2 =>
(F_X1_answeredWith n S k2 (0 : Int32)).bind fun r6 =>
nm (stI S a0 8 r6) fun S9 =>
rfd (S9.2.2 a0 6) 0 fun k13 =>
(F_X1_answeredWith n S9 k13 (1 : Int32)).bind fun r17 =>
some (r17, S9)
set_option maxHeartbeats 4000000 in
set_option maxRecDepth 100000 in
theorem C_X6_right (G : aG) (l : Launch) (n : Nat) (S : aSt) (a0 : Nat) (r : Int32) (Sr : aSt) (ha0 : isT a0 5 = true) (hf : F_X6_right n S a0 = some (r, Sr)) : Ctr G l yX6_right mX6_right (rmM 5) 97 97 S [.ref a0] (some (.int r)) Sr := by
  refine Ctr.of (by decide) rfl rfl (Nat.le_of_ble_eq_true rfl) [(0, .ref a0)] rfl ?_
  unfold F_X6_right at hf
  refine Go.aload_n 0 1 rfl dX6_right_0 rfl ?_
  refine Go.aload_n 0 2 rfl dX6_right_1 rfl ?_
  obtain ⟨k2, qk2, hk2, hf⟩ := f_rfd hf
  refine Go.getR 5 rfl dX6_right_2 fl_X6_45 rfl (isT_lt ha0) (isT_sh ha0) qk2 ?_
  refine Go.iconst (0 : Int32) 6 rfl dX6_right_5 ci_0 ?_
  obtain ⟨r6, er6, hf⟩ := f_bnd hf
  refine Go.cV 9 [.int (0 : Int32)] [.ref a0] (C_X1_answeredWith G l n S k2 (0 : Int32) r6 hk2 er6) rfl dX6_right_6 cv_X6_179 hk2 (by decide) (by decide) rfl (Nat.le_of_ble_eq_true rfl) ?_
  obtain ⟨S9, eS9, hf⟩ := f_nm hf
  refine Go.putI 12 rfl dX6_right_9 fp_X6_52 rfl (isT_lt ha0) (isT_sh ha0) (fun h => by cases h) (Go.stt S9 eS9 ?_)
  refine Go.aload_n 0 13 rfl dX6_right_12 rfl ?_
  obtain ⟨k13, qk13, hk13, hf⟩ := f_rfd hf
  refine Go.getR 16 rfl dX6_right_13 fl_X6_45 rfl (isT_lt ha0) (isT_sh ha0) qk13 ?_
  refine Go.iconst (1 : Int32) 17 rfl dX6_right_16 ci_1 ?_
  obtain ⟨r17, er17, hf⟩ := f_bnd hf
  refine Go.cV 20 [.int (1 : Int32)] [] (C_X1_answeredWith G l n S9 k13 (1 : Int32) r17 hk13 er17) rfl dX6_right_17 cv_X6_179 hk13 (by decide) (by decide) rfl (Nat.le_of_ble_eq_true rfl) ?_
  exact Go.irS rfl dX6_right_20 hf
theorem dX6_isPlaceKept_0 : decode cX6_isPlaceKept 0 = .ok (.iload_n 0, 1) := by decide +kernel
theorem dX6_isPlaceKept_1 : decode cX6_isPlaceKept 1 = .ok (.ifCond .lt 12, 3) := by decide +kernel
theorem dX6_isPlaceKept_4 : decode cX6_isPlaceKept 4 = .ok (.iload_n 0, 1) := by decide +kernel
theorem dX6_isPlaceKept_5 : decode cX6_isPlaceKept 5 = .ok (.iconst 3, 1) := by decide +kernel
theorem dX6_isPlaceKept_6 : decode cX6_isPlaceKept 6 = .ok (.if_icmp .ge 7, 3) := by decide +kernel
theorem dX6_isPlaceKept_9 : decode cX6_isPlaceKept 9 = .ok (.iconst 1, 1) := by decide +kernel
theorem dX6_isPlaceKept_10 : decode cX6_isPlaceKept 10 = .ok (.goto 4, 3) := by decide +kernel
theorem dX6_isPlaceKept_13 : decode cX6_isPlaceKept 13 = .ok (.iconst 0, 1) := by decide +kernel
theorem dX6_isPlaceKept_14 : decode cX6_isPlaceKept 14 = .ok (.ireturn, 1) := by decide +kernel
def F_X6_isPlaceKept (n : Nat) (S : aSt) (a0 : Int32) : Option Int32 :=
if a0 < 0 then (some (0 : Int32)) else
if (3 : Int32) ≤ a0 then (some (0 : Int32)) else
some (1 : Int32)
set_option maxHeartbeats 4000000 in
set_option maxRecDepth 100000 in
theorem C_X6_isPlaceKept (G : aG) (l : Launch) (n : Nat) (S : aSt) (a0 : Int32) (r : Int32)  (hf : F_X6_isPlaceKept n S a0 = some r) : Ctr G l yX6_isPlaceKept mX6_isPlaceKept (rmM 1) 97 97 S [.int a0] (some (.int r)) S := by
  refine Ctr.of (by decide) rfl rfl (Nat.le_of_ble_eq_true rfl) [(0, .int a0)] rfl ?_
  unfold F_X6_isPlaceKept at hf
  refine Go.iload_n 0 1 rfl dX6_isPlaceKept_0 rfl ?_
  refine Go.if_lt 13 4 rfl dX6_isPlaceKept_1 rfl (fun hc => ?_) (fun hc => ?_)
  · replace hf := f_if hf hc
    refine Go.iconst (0 : Int32) 14 rfl dX6_isPlaceKept_13 ci_0 ?_
    exact Go.zr rfl (Or.inl rfl) dX6_isPlaceKept_14 hf
  · replace hf := f_el hf hc
    refine Go.iload_n 0 5 rfl dX6_isPlaceKept_4 rfl ?_
    refine Go.iconst (3 : Int32) 6 rfl dX6_isPlaceKept_5 ci_3 ?_
    refine Go.icmp_ge 13 9 rfl dX6_isPlaceKept_6 rfl (fun hc => ?_) (fun hc => ?_)
    · replace hf := f_if hf hc
      refine Go.iconst (0 : Int32) 14 rfl dX6_isPlaceKept_13 ci_0 ?_
      exact Go.zr rfl (Or.inl rfl) dX6_isPlaceKept_14 hf
    · replace hf := f_el hf hc
      refine Go.iconst (1 : Int32) 10 rfl dX6_isPlaceKept_9 ci_1 ?_
      refine Go.goto 14 dX6_isPlaceKept_10 rfl ?_
      exact Go.zr rfl (Or.inr rfl) dX6_isPlaceKept_14 hf
theorem dX6_keep_0 : decode cX6_keep 0 = .ok (.iload_n 1, 1) := by decide +kernel
theorem dX6_keep_1 : decode cX6_keep 1 = .ok (.invokestatic 182, 3) := by decide +kernel
theorem dX6_keep_4 : decode cX6_keep 4 = .ok (.ifCond .ne 5, 3) := by decide +kernel
theorem dX6_keep_7 : decode cX6_keep 7 = .ok (.iconst (-1), 1) := by decide +kernel
theorem dX6_keep_8 : decode cX6_keep 8 = .ok (.ireturn, 1) := by decide +kernel
theorem dX6_keep_9 : decode cX6_keep 9 = .ok (.aload_n 0, 1) := by decide +kernel
theorem dX6_keep_10 : decode cX6_keep 10 = .ok (.getfield 45, 3) := by decide +kernel
theorem dX6_keep_13 : decode cX6_keep 13 = .ok (.getfield 115, 3) := by decide +kernel
theorem dX6_keep_16 : decode cX6_keep 16 = .ok (.ifCond .ne 6, 3) := by decide +kernel
theorem dX6_keep_19 : decode cX6_keep 19 = .ok (.bipush (-4), 2) := by decide +kernel
theorem dX6_keep_21 : decode cX6_keep 21 = .ok (.ireturn, 1) := by decide +kernel
theorem dX6_keep_22 : decode cX6_keep 22 = .ok (.aload_n 0, 1) := by decide +kernel
theorem dX6_keep_23 : decode cX6_keep 23 = .ok (.getfield 20, 3) := by decide +kernel
theorem dX6_keep_26 : decode cX6_keep 26 = .ok (.iload_n 1, 1) := by decide +kernel
theorem dX6_keep_27 : decode cX6_keep 27 = .ok (.aaload, 1) := by decide +kernel
theorem dX6_keep_28 : decode cX6_keep 28 = .ok (.aload_n 0, 1) := by decide +kernel
theorem dX6_keep_29 : decode cX6_keep 29 = .ok (.getfield 45, 3) := by decide +kernel
theorem dX6_keep_32 : decode cX6_keep 32 = .ok (.getfield 142, 3) := by decide +kernel
theorem dX6_keep_35 : decode cX6_keep 35 = .ok (.invokevirtual 185, 3) := by decide +kernel
theorem dX6_keep_38 : decode cX6_keep 38 = .ok (.aload_n 0, 1) := by decide +kernel
theorem dX6_keep_39 : decode cX6_keep 39 = .ok (.getfield 45, 3) := by decide +kernel
theorem dX6_keep_42 : decode cX6_keep 42 = .ok (.getfield 142, 3) := by decide +kernel
theorem dX6_keep_45 : decode cX6_keep 45 = .ok (.getfield 112, 3) := by decide +kernel
theorem dX6_keep_48 : decode cX6_keep 48 = .ok (.ireturn, 1) := by decide +kernel
def F_X6_keep (n : Nat) (S : aSt) (a0 : Nat) (a1 : Int32) : Option (Int32 × aSt) :=
(F_X6_isPlaceKept n S a1).bind fun r1 =>
if r1 = 0 then (some ((-1 : Int32), S)) else
rfd (S.2.2 a0 6) 0 fun k10 =>
if (S.1 k10 7) = 0 then (some ((-4 : Int32), S)) else
rfd (S.2.2 a0 2) 10 fun k23 =>
grd (inb a1 (SH k23).2) <|
rfd (S.2.2 k23 a1.toNatClampNeg) 4 fun k27 =>
rfd (S.2.2 k10 6) 4 fun k32 =>
(F_X5_become n S k27 k32).bind fun S35 =>
rfd (S35.2.2 a0 6) 0 fun k39 =>
rfd (S35.2.2 k39 6) 4 fun k42 =>
some ((S35.1 k42 6), S35)
set_option maxHeartbeats 4000000 in
set_option maxRecDepth 100000 in
theorem C_X6_keep (G : aG) (l : Launch) (n : Nat) (S : aSt) (a0 : Nat) (a1 : Int32) (r : Int32) (Sr : aSt) (ha0 : isT a0 5 = true) (hf : F_X6_keep n S a0 a1 = some (r, Sr)) : Ctr G l yX6_keep mX6_keep (rmM 3) 97 97 S [.ref a0, .int a1] (some (.int r)) Sr := by
  refine Ctr.of (by decide) rfl rfl (Nat.le_of_ble_eq_true rfl) [(0, .ref a0), (1, .int a1)] rfl ?_
  unfold F_X6_keep at hf
  refine Go.iload_n 1 1 rfl dX6_keep_0 rfl ?_
  obtain ⟨r1, er1, hf⟩ := f_bnd hf
  refine Go.cS 4 [.int a1] [] (C_X6_isPlaceKept G l n S a1 r1  er1) rfl dX6_keep_1 cx_X6_182 (by decide) (by decide) rfl (Nat.le_of_ble_eq_true rfl) ?_
  refine Go.if_ne 9 7 rfl dX6_keep_4 rfl (fun hc => ?_) (fun hc => ?_)
  · replace hf := f_el hf hc
    refine Go.aload_n 0 10 rfl dX6_keep_9 rfl ?_
    obtain ⟨k10, qk10, hk10, hf⟩ := f_rfd hf
    refine Go.getR 13 rfl dX6_keep_10 fl_X6_45 rfl (isT_lt ha0) (isT_sh ha0) qk10 ?_
    refine Go.getI 16 rfl dX6_keep_13 fl_X6_115 rfl (isT_lt hk10) (isT_sh hk10) ?_
    refine Go.if_ne 22 19 rfl dX6_keep_16 rfl (fun hc => ?_) (fun hc => ?_)
    · replace hf := f_el hf hc
      refine Go.aload_n 0 23 rfl dX6_keep_22 rfl ?_
      obtain ⟨k23, qk23, hk23, hf⟩ := f_rfd hf
      refine Go.getR 26 rfl dX6_keep_23 fl_X6_20 rfl (isT_lt ha0) (isT_sh ha0) qk23 ?_
      refine Go.iload_n 1 27 rfl dX6_keep_26 rfl ?_
      obtain ⟨g27, hf⟩ := f_grd hf
      obtain ⟨k27, qk27, hk27, hf⟩ := f_rfd hf
      refine Go.aaldS 28 rfl dX6_keep_27 (isT_lt hk23) (isT_sh hk23) g27 qk27 ?_
      refine Go.aload_n 0 29 rfl dX6_keep_28 rfl ?_
      refine Go.getR 32 rfl dX6_keep_29 fl_X6_45 rfl (isT_lt ha0) (isT_sh ha0) qk10 ?_
      obtain ⟨k32, qk32, hk32, hf⟩ := f_rfd hf
      refine Go.getR 35 rfl dX6_keep_32 fl_X6_142 rfl (isT_lt hk10) (isT_sh hk10) qk32 ?_
      obtain ⟨S35, eS35, hf⟩ := f_bnd hf
      refine Go.cVv 38 [.ref k32] [] (C_X5_become G l n S k27 k32 S35 hk27 hk32 eS35) rfl dX6_keep_35 cv_X6_185 hk27 (by decide) (by decide) rfl (Nat.le_of_ble_eq_true rfl) ?_
      refine Go.aload_n 0 39 rfl dX6_keep_38 rfl ?_
      obtain ⟨k39, qk39, hk39, hf⟩ := f_rfd hf
      refine Go.getR 42 rfl dX6_keep_39 fl_X6_45 rfl (isT_lt ha0) (isT_sh ha0) qk39 ?_
      obtain ⟨k42, qk42, hk42, hf⟩ := f_rfd hf
      refine Go.getR 45 rfl dX6_keep_42 fl_X6_142 rfl (isT_lt hk39) (isT_sh hk39) qk42 ?_
      refine Go.getI 48 rfl dX6_keep_45 fl_X6_112 rfl (isT_lt hk42) (isT_sh hk42) ?_
      exact Go.irS rfl dX6_keep_48 hf
    · replace hf := f_if hf hc
      refine Go.bipush (-4 : Int32) 21 rfl dX6_keep_19 cb_m4 ?_
      exact Go.irS rfl dX6_keep_21 hf
  · replace hf := f_if hf hc
    refine Go.iconst (-1 : Int32) 8 rfl dX6_keep_7 ci_m1 ?_
    exact Go.irS rfl dX6_keep_8 hf
theorem dX6_on_0 : decode cX6_on 0 = .ok (.iload_n 1, 1) := by decide +kernel
theorem dX6_on_1 : decode cX6_on 1 = .ok (.invokestatic 182, 3) := by decide +kernel
theorem dX6_on_4 : decode cX6_on 4 = .ok (.ifCond .ne 5, 3) := by decide +kernel
theorem dX6_on_7 : decode cX6_on 7 = .ok (.iconst (-1), 1) := by decide +kernel
theorem dX6_on_8 : decode cX6_on 8 = .ok (.ireturn, 1) := by decide +kernel
theorem dX6_on_9 : decode cX6_on 9 = .ok (.aload_n 0, 1) := by decide +kernel
theorem dX6_on_10 : decode cX6_on 10 = .ok (.getfield 20, 3) := by decide +kernel
theorem dX6_on_13 : decode cX6_on 13 = .ok (.iload_n 1, 1) := by decide +kernel
theorem dX6_on_14 : decode cX6_on 14 = .ok (.aaload, 1) := by decide +kernel
theorem dX6_on_15 : decode cX6_on 15 = .ok (.getfield 112, 3) := by decide +kernel
theorem dX6_on_18 : decode cX6_on 18 = .ok (.iconst (-1), 1) := by decide +kernel
theorem dX6_on_19 : decode cX6_on 19 = .ok (.if_icmp .ne 9, 3) := by decide +kernel
theorem dX6_on_22 : decode cX6_on 22 = .ok (.aload_n 0, 1) := by decide +kernel
theorem dX6_on_23 : decode cX6_on 23 = .ok (.iconst 1, 1) := by decide +kernel
theorem dX6_on_24 : decode cX6_on 24 = .ok (.invokevirtual 74, 3) := by decide +kernel
theorem dX6_on_27 : decode cX6_on 27 = .ok (.ireturn, 1) := by decide +kernel
theorem dX6_on_28 : decode cX6_on 28 = .ok (.aload_n 0, 1) := by decide +kernel
theorem dX6_on_29 : decode cX6_on 29 = .ok (.getfield 45, 3) := by decide +kernel
theorem dX6_on_32 : decode cX6_on 32 = .ok (.getfield 142, 3) := by decide +kernel
theorem dX6_on_35 : decode cX6_on 35 = .ok (.aload_n 0, 1) := by decide +kernel
theorem dX6_on_36 : decode cX6_on 36 = .ok (.getfield 20, 3) := by decide +kernel
theorem dX6_on_39 : decode cX6_on 39 = .ok (.iload_n 1, 1) := by decide +kernel
theorem dX6_on_40 : decode cX6_on 40 = .ok (.aaload, 1) := by decide +kernel
theorem dX6_on_41 : decode cX6_on 41 = .ok (.invokevirtual 185, 3) := by decide +kernel
theorem dX6_on_44 : decode cX6_on 44 = .ok (.aload_n 0, 1) := by decide +kernel
theorem dX6_on_45 : decode cX6_on 45 = .ok (.getfield 45, 3) := by decide +kernel
theorem dX6_on_48 : decode cX6_on 48 = .ok (.getfield 142, 3) := by decide +kernel
theorem dX6_on_51 : decode cX6_on 51 = .ok (.getfield 112, 3) := by decide +kernel
theorem dX6_on_54 : decode cX6_on 54 = .ok (.ireturn, 1) := by decide +kernel
def F_X6_on (n : Nat) (S : aSt) (a0 : Nat) (a1 : Int32) : Option (Int32 × aSt) :=
(F_X6_isPlaceKept n S a1).bind fun r1 =>
if r1 = 0 then (some ((-1 : Int32), S)) else
rfd (S.2.2 a0 2) 10 fun k10 =>
grd (inb a1 (SH k10).2) <|
rfd (S.2.2 k10 a1.toNatClampNeg) 4 fun k14 =>
if (S.1 k14 6) = (-1 : Int32) then (bn2 (F_X6_found n S a0 (1 : Int32)) fun r24 S24 =>
some (r24, S24)) else
rfd (S.2.2 a0 6) 0 fun k29 =>
rfd (S.2.2 k29 6) 4 fun k32 =>
grd (inb a1 (SH k10).2) <|
rfd (S.2.2 k10 a1.toNatClampNeg) 4 fun k40 =>
(F_X5_become n S k32 k40).bind fun S41 =>
rfd (S41.2.2 a0 6) 0 fun k45 =>
rfd (S41.2.2 k45 6) 4 fun k48 =>
some ((S41.1 k48 6), S41)
set_option maxHeartbeats 4000000 in
set_option maxRecDepth 100000 in
theorem C_X6_on (G : aG) (l : Launch) (n : Nat) (S : aSt) (a0 : Nat) (a1 : Int32) (r : Int32) (Sr : aSt) (ha0 : isT a0 5 = true) (hf : F_X6_on n S a0 a1 = some (r, Sr)) : Ctr G l yX6_on mX6_on (rmM 3) 97 97 S [.ref a0, .int a1] (some (.int r)) Sr := by
  refine Ctr.of (by decide) rfl rfl (Nat.le_of_ble_eq_true rfl) [(0, .ref a0), (1, .int a1)] rfl ?_
  unfold F_X6_on at hf
  refine Go.iload_n 1 1 rfl dX6_on_0 rfl ?_
  obtain ⟨r1, er1, hf⟩ := f_bnd hf
  refine Go.cS 4 [.int a1] [] (C_X6_isPlaceKept G l n S a1 r1  er1) rfl dX6_on_1 cx_X6_182 (by decide) (by decide) rfl (Nat.le_of_ble_eq_true rfl) ?_
  refine Go.if_ne 9 7 rfl dX6_on_4 rfl (fun hc => ?_) (fun hc => ?_)
  · replace hf := f_el hf hc
    refine Go.aload_n 0 10 rfl dX6_on_9 rfl ?_
    obtain ⟨k10, qk10, hk10, hf⟩ := f_rfd hf
    refine Go.getR 13 rfl dX6_on_10 fl_X6_20 rfl (isT_lt ha0) (isT_sh ha0) qk10 ?_
    refine Go.iload_n 1 14 rfl dX6_on_13 rfl ?_
    obtain ⟨g14, hf⟩ := f_grd hf
    obtain ⟨k14, qk14, hk14, hf⟩ := f_rfd hf
    refine Go.aaldS 15 rfl dX6_on_14 (isT_lt hk10) (isT_sh hk10) g14 qk14 ?_
    refine Go.getI 18 rfl dX6_on_15 fl_X6_112 rfl (isT_lt hk14) (isT_sh hk14) ?_
    refine Go.iconst (-1 : Int32) 19 rfl dX6_on_18 ci_m1 ?_
    refine Go.icmp_ne 28 22 rfl dX6_on_19 rfl (fun hc => ?_) (fun hc => ?_)
    · replace hf := f_el hf hc
      refine Go.aload_n 0 29 rfl dX6_on_28 rfl ?_
      obtain ⟨k29, qk29, hk29, hf⟩ := f_rfd hf
      refine Go.getR 32 rfl dX6_on_29 fl_X6_45 rfl (isT_lt ha0) (isT_sh ha0) qk29 ?_
      obtain ⟨k32, qk32, hk32, hf⟩ := f_rfd hf
      refine Go.getR 35 rfl dX6_on_32 fl_X6_142 rfl (isT_lt hk29) (isT_sh hk29) qk32 ?_
      refine Go.aload_n 0 36 rfl dX6_on_35 rfl ?_
      refine Go.getR 39 rfl dX6_on_36 fl_X6_20 rfl (isT_lt ha0) (isT_sh ha0) qk10 ?_
      refine Go.iload_n 1 40 rfl dX6_on_39 rfl ?_
      obtain ⟨g40, hf⟩ := f_grd hf
      obtain ⟨k40, qk40, hk40, hf⟩ := f_rfd hf
      refine Go.aaldS 41 rfl dX6_on_40 (isT_lt hk10) (isT_sh hk10) g40 qk40 ?_
      obtain ⟨S41, eS41, hf⟩ := f_bnd hf
      refine Go.cVv 44 [.ref k40] [] (C_X5_become G l n S k32 k40 S41 hk32 hk40 eS41) rfl dX6_on_41 cv_X6_185 hk32 (by decide) (by decide) rfl (Nat.le_of_ble_eq_true rfl) ?_
      refine Go.aload_n 0 45 rfl dX6_on_44 rfl ?_
      obtain ⟨k45, qk45, hk45, hf⟩ := f_rfd hf
      refine Go.getR 48 rfl dX6_on_45 fl_X6_45 rfl (isT_lt ha0) (isT_sh ha0) qk45 ?_
      obtain ⟨k48, qk48, hk48, hf⟩ := f_rfd hf
      refine Go.getR 51 rfl dX6_on_48 fl_X6_142 rfl (isT_lt hk45) (isT_sh hk45) qk48 ?_
      refine Go.getI 54 rfl dX6_on_51 fl_X6_112 rfl (isT_lt hk48) (isT_sh hk48) ?_
      exact Go.irS rfl dX6_on_54 hf
    · replace hf := f_if hf hc
      refine Go.aload_n 0 23 rfl dX6_on_22 rfl ?_
      refine Go.iconst (1 : Int32) 24 rfl dX6_on_23 ci_1 ?_
      obtain ⟨r24, S24, er24, hf⟩ := f_bn2 hf
      refine Go.cV 27 [.int (1 : Int32)] [] (C_X6_found G l n S a0 (1 : Int32) r24 S24 ha0 er24) rfl dX6_on_24 cv_X6_74 ha0 (by decide) (by decide) rfl (Nat.le_of_ble_eq_true rfl) ?_
      exact Go.irS rfl dX6_on_27 hf
  · replace hf := f_if hf hc
    refine Go.iconst (-1 : Int32) 8 rfl dX6_on_7 ci_m1 ?_
    exact Go.irS rfl dX6_on_8 hf
theorem dX6_match_0 : decode cX6_match 0 = .ok (.iload_n 1, 1) := by decide +kernel
theorem dX6_match_1 : decode cX6_match 1 = .ok (.invokestatic 70, 3) := by decide +kernel
theorem dX6_match_4 : decode cX6_match 4 = .ok (.ifCond .ne 5, 3) := by decide +kernel
theorem dX6_match_7 : decode cX6_match 7 = .ok (.iconst (-1), 1) := by decide +kernel
theorem dX6_match_8 : decode cX6_match 8 = .ok (.ireturn, 1) := by decide +kernel
theorem dX6_match_9 : decode cX6_match 9 = .ok (.aload_n 0, 1) := by decide +kernel
theorem dX6_match_10 : decode cX6_match 10 = .ok (.getfield 31, 3) := by decide +kernel
theorem dX6_match_13 : decode cX6_match 13 = .ok (.aload_n 0, 1) := by decide +kernel
theorem dX6_match_14 : decode cX6_match 14 = .ok (.getfield 45, 3) := by decide +kernel
theorem dX6_match_17 : decode cX6_match 17 = .ok (.invokevirtual 189, 3) := by decide +kernel
theorem dX6_match_20 : decode cX6_match 20 = .ok (.aload_n 0, 1) := by decide +kernel
theorem dX6_match_21 : decode cX6_match 21 = .ok (.getfield 31, 3) := by decide +kernel
theorem dX6_match_24 : decode cX6_match 24 = .ok (.aload_n 0, 1) := by decide +kernel
theorem dX6_match_25 : decode cX6_match 25 = .ok (.getfield 11, 3) := by decide +kernel
theorem dX6_match_28 : decode cX6_match 28 = .ok (.iload_n 1, 1) := by decide +kernel
theorem dX6_match_29 : decode cX6_match 29 = .ok (.aaload, 1) := by decide +kernel
theorem dX6_match_30 : decode cX6_match 30 = .ok (.invokevirtual 193, 3) := by decide +kernel
theorem dX6_match_33 : decode cX6_match 33 = .ok (.aload_n 0, 1) := by decide +kernel
theorem dX6_match_34 : decode cX6_match 34 = .ok (.getfield 31, 3) := by decide +kernel
theorem dX6_match_37 : decode cX6_match 37 = .ok (.getfield 197, 3) := by decide +kernel
theorem dX6_match_40 : decode cX6_match 40 = .ok (.ireturn, 1) := by decide +kernel
def F_X6_match (n : Nat) (S : aSt) (a0 : Nat) (a1 : Int32) : Option (Int32 × aSt) :=
(F_X6_isRow n S a1).bind fun r1 =>
if r1 = 0 then (some ((-1 : Int32), S)) else
rfd (S.2.2 a0 4) 1 fun k10 =>
rfd (S.2.2 a0 6) 0 fun k14 =>
(F_X2_countIn n S k10 k14).bind fun S17 =>
rfd (S17.2.2 a0 4) 1 fun k21 =>
rfd (S17.2.2 a0 0) 9 fun k25 =>
grd (inb a1 (SH k25).2) <|
rfd (S17.2.2 k25 a1.toNatClampNeg) 3 fun k29 =>
(F_X2_layFullest n S17 k21 k29).bind fun S30 =>
rfd (S30.2.2 a0 4) 1 fun k34 =>
some ((S30.1 k34 6), S30)
set_option maxHeartbeats 4000000 in
set_option maxRecDepth 100000 in
theorem C_X6_match (G : aG) (l : Launch) (n : Nat) (S : aSt) (a0 : Nat) (a1 : Int32) (r : Int32) (Sr : aSt) (ha0 : isT a0 5 = true) (hf : F_X6_match n S a0 a1 = some (r, Sr)) : Ctr G l yX6_match mX6_match (rmM 7) 97 97 S [.ref a0, .int a1] (some (.int r)) Sr := by
  refine Ctr.of (by decide) rfl rfl (Nat.le_of_ble_eq_true rfl) [(0, .ref a0), (1, .int a1)] rfl ?_
  unfold F_X6_match at hf
  refine Go.iload_n 1 1 rfl dX6_match_0 rfl ?_
  obtain ⟨r1, er1, hf⟩ := f_bnd hf
  refine Go.cS 4 [.int a1] [] (C_X6_isRow G l n S a1 r1  er1) rfl dX6_match_1 cx_X6_70 (by decide) (by decide) rfl (Nat.le_of_ble_eq_true rfl) ?_
  refine Go.if_ne 9 7 rfl dX6_match_4 rfl (fun hc => ?_) (fun hc => ?_)
  · replace hf := f_el hf hc
    refine Go.aload_n 0 10 rfl dX6_match_9 rfl ?_
    obtain ⟨k10, qk10, hk10, hf⟩ := f_rfd hf
    refine Go.getR 13 rfl dX6_match_10 fl_X6_31 rfl (isT_lt ha0) (isT_sh ha0) qk10 ?_
    refine Go.aload_n 0 14 rfl dX6_match_13 rfl ?_
    obtain ⟨k14, qk14, hk14, hf⟩ := f_rfd hf
    refine Go.getR 17 rfl dX6_match_14 fl_X6_45 rfl (isT_lt ha0) (isT_sh ha0) qk14 ?_
    obtain ⟨S17, eS17, hf⟩ := f_bnd hf
    refine Go.cVv 20 [.ref k14] [] (C_X2_countIn G l n S k10 k14 S17 hk10 hk14 eS17) rfl dX6_match_17 cv_X6_189 hk10 (by decide) (by decide) rfl (Nat.le_of_ble_eq_true rfl) ?_
    refine Go.aload_n 0 21 rfl dX6_match_20 rfl ?_
    obtain ⟨k21, qk21, hk21, hf⟩ := f_rfd hf
    refine Go.getR 24 rfl dX6_match_21 fl_X6_31 rfl (isT_lt ha0) (isT_sh ha0) qk21 ?_
    refine Go.aload_n 0 25 rfl dX6_match_24 rfl ?_
    obtain ⟨k25, qk25, hk25, hf⟩ := f_rfd hf
    refine Go.getR 28 rfl dX6_match_25 fl_X6_11 rfl (isT_lt ha0) (isT_sh ha0) qk25 ?_
    refine Go.iload_n 1 29 rfl dX6_match_28 rfl ?_
    obtain ⟨g29, hf⟩ := f_grd hf
    obtain ⟨k29, qk29, hk29, hf⟩ := f_rfd hf
    refine Go.aaldR 30 rfl dX6_match_29 (isT_lt hk25) (isT_sh hk25) g29 qk29 ?_
    obtain ⟨S30, eS30, hf⟩ := f_bnd hf
    refine Go.cVv 33 [.ref k29] [] (C_X2_layFullest G l n S17 k21 k29 S30 hk21 hk29 eS30) rfl dX6_match_30 cv_X6_193 hk21 (by decide) (by decide) rfl (Nat.le_of_ble_eq_true rfl) ?_
    refine Go.aload_n 0 34 rfl dX6_match_33 rfl ?_
    obtain ⟨k34, qk34, hk34, hf⟩ := f_rfd hf
    refine Go.getR 37 rfl dX6_match_34 fl_X6_31 rfl (isT_lt ha0) (isT_sh ha0) qk34 ?_
    refine Go.getI 40 rfl dX6_match_37 fl_X6_197 rfl (isT_lt hk34) (isT_sh hk34) ?_
    exact Go.irS rfl dX6_match_40 hf
  · replace hf := f_if hf hc
    refine Go.iconst (-1 : Int32) 8 rfl dX6_match_7 ci_m1 ?_
    exact Go.irS rfl dX6_match_8 hf
theorem dX6_wished_0 : decode cX6_wished 0 = .ok (.iload_n 1, 1) := by decide +kernel
theorem dX6_wished_1 : decode cX6_wished 1 = .ok (.invokestatic 70, 3) := by decide +kernel
theorem dX6_wished_4 : decode cX6_wished 4 = .ok (.ifCond .ne 5, 3) := by decide +kernel
theorem dX6_wished_7 : decode cX6_wished 7 = .ok (.iconst (-1), 1) := by decide +kernel
theorem dX6_wished_8 : decode cX6_wished 8 = .ok (.ireturn, 1) := by decide +kernel
theorem dX6_wished_9 : decode cX6_wished 9 = .ok (.aload_n 0, 1) := by decide +kernel
theorem dX6_wished_10 : decode cX6_wished 10 = .ok (.getfield 31, 3) := by decide +kernel
theorem dX6_wished_13 : decode cX6_wished 13 = .ok (.aload_n 0, 1) := by decide +kernel
theorem dX6_wished_14 : decode cX6_wished 14 = .ok (.getfield 45, 3) := by decide +kernel
theorem dX6_wished_17 : decode cX6_wished 17 = .ok (.aload_n 0, 1) := by decide +kernel
theorem dX6_wished_18 : decode cX6_wished 18 = .ok (.getfield 11, 3) := by decide +kernel
theorem dX6_wished_21 : decode cX6_wished 21 = .ok (.iload_n 1, 1) := by decide +kernel
theorem dX6_wished_22 : decode cX6_wished 22 = .ok (.aaload, 1) := by decide +kernel
theorem dX6_wished_23 : decode cX6_wished 23 = .ok (.invokevirtual 200, 3) := by decide +kernel
theorem dX6_wished_26 : decode cX6_wished 26 = .ok (.ireturn, 1) := by decide +kernel
def F_X6_wished (n : Nat) (S : aSt) (a0 : Nat) (a1 : Int32) : Option (Int32 × aSt) :=
(F_X6_isRow n S a1).bind fun r1 =>
if r1 = 0 then (some ((-1 : Int32), S)) else
rfd (S.2.2 a0 4) 1 fun k10 =>
rfd (S.2.2 a0 6) 0 fun k14 =>
rfd (S.2.2 a0 0) 9 fun k18 =>
grd (inb a1 (SH k18).2) <|
rfd (S.2.2 k18 a1.toNatClampNeg) 3 fun k22 =>
bn2 (F_X2_layMostWished n S k10 k14 k22) fun r23 S23 =>
some (r23, S23)
set_option maxHeartbeats 4000000 in
set_option maxRecDepth 100000 in
theorem C_X6_wished (G : aG) (l : Launch) (n : Nat) (S : aSt) (a0 : Nat) (a1 : Int32) (r : Int32) (Sr : aSt) (ha0 : isT a0 5 = true) (hf : F_X6_wished n S a0 a1 = some (r, Sr)) : Ctr G l yX6_wished mX6_wished (rmM 7) 97 97 S [.ref a0, .int a1] (some (.int r)) Sr := by
  refine Ctr.of (by decide) rfl rfl (Nat.le_of_ble_eq_true rfl) [(0, .ref a0), (1, .int a1)] rfl ?_
  unfold F_X6_wished at hf
  refine Go.iload_n 1 1 rfl dX6_wished_0 rfl ?_
  obtain ⟨r1, er1, hf⟩ := f_bnd hf
  refine Go.cS 4 [.int a1] [] (C_X6_isRow G l n S a1 r1  er1) rfl dX6_wished_1 cx_X6_70 (by decide) (by decide) rfl (Nat.le_of_ble_eq_true rfl) ?_
  refine Go.if_ne 9 7 rfl dX6_wished_4 rfl (fun hc => ?_) (fun hc => ?_)
  · replace hf := f_el hf hc
    refine Go.aload_n 0 10 rfl dX6_wished_9 rfl ?_
    obtain ⟨k10, qk10, hk10, hf⟩ := f_rfd hf
    refine Go.getR 13 rfl dX6_wished_10 fl_X6_31 rfl (isT_lt ha0) (isT_sh ha0) qk10 ?_
    refine Go.aload_n 0 14 rfl dX6_wished_13 rfl ?_
    obtain ⟨k14, qk14, hk14, hf⟩ := f_rfd hf
    refine Go.getR 17 rfl dX6_wished_14 fl_X6_45 rfl (isT_lt ha0) (isT_sh ha0) qk14 ?_
    refine Go.aload_n 0 18 rfl dX6_wished_17 rfl ?_
    obtain ⟨k18, qk18, hk18, hf⟩ := f_rfd hf
    refine Go.getR 21 rfl dX6_wished_18 fl_X6_11 rfl (isT_lt ha0) (isT_sh ha0) qk18 ?_
    refine Go.iload_n 1 22 rfl dX6_wished_21 rfl ?_
    obtain ⟨g22, hf⟩ := f_grd hf
    obtain ⟨k22, qk22, hk22, hf⟩ := f_rfd hf
    refine Go.aaldR 23 rfl dX6_wished_22 (isT_lt hk18) (isT_sh hk18) g22 qk22 ?_
    obtain ⟨r23, S23, er23, hf⟩ := f_bn2 hf
    refine Go.cV 26 [.ref k14, .ref k22] [] (C_X2_layMostWished G l n S k10 k14 k22 r23 S23 hk10 hk14 hk22 er23) rfl dX6_wished_23 cv_X6_200 hk10 (by decide) (by decide) rfl (Nat.le_of_ble_eq_true rfl) ?_
    exact Go.irS rfl dX6_wished_26 hf
  · replace hf := f_if hf hc
    refine Go.iconst (-1 : Int32) 8 rfl dX6_wished_7 ci_m1 ?_
    exact Go.irS rfl dX6_wished_8 hf
theorem dX6_fullest_0 : decode cX6_fullest 0 = .ok (.aload_n 0, 1) := by decide +kernel
theorem dX6_fullest_1 : decode cX6_fullest 1 = .ok (.getfield 31, 3) := by decide +kernel
theorem dX6_fullest_4 : decode cX6_fullest 4 = .ok (.aload_n 0, 1) := by decide +kernel
theorem dX6_fullest_5 : decode cX6_fullest 5 = .ok (.getfield 45, 3) := by decide +kernel
theorem dX6_fullest_8 : decode cX6_fullest 8 = .ok (.invokevirtual 189, 3) := by decide +kernel
theorem dX6_fullest_11 : decode cX6_fullest 11 = .ok (.iconst 0, 1) := by decide +kernel
theorem dX6_fullest_12 : decode cX6_fullest 12 = .ok (.istore_n 1, 1) := by decide +kernel
theorem dX6_fullest_13 : decode cX6_fullest 13 = .ok (.iconst 0, 1) := by decide +kernel
theorem dX6_fullest_14 : decode cX6_fullest 14 = .ok (.istore_n 2, 1) := by decide +kernel
theorem dX6_fullest_15 : decode cX6_fullest 15 = .ok (.iload_n 2, 1) := by decide +kernel
theorem dX6_fullest_16 : decode cX6_fullest 16 = .ok (.aload_n 0, 1) := by decide +kernel
theorem dX6_fullest_17 : decode cX6_fullest 17 = .ok (.getfield 45, 3) := by decide +kernel
theorem dX6_fullest_20 : decode cX6_fullest 20 = .ok (.getfield 204, 3) := by decide +kernel
theorem dX6_fullest_23 : decode cX6_fullest 23 = .ok (.if_icmp .ge 25, 3) := by decide +kernel
theorem dX6_fullest_26 : decode cX6_fullest 26 = .ok (.aload_n 0, 1) := by decide +kernel
theorem dX6_fullest_27 : decode cX6_fullest 27 = .ok (.getfield 31, 3) := by decide +kernel
theorem dX6_fullest_30 : decode cX6_fullest 30 = .ok (.iload_n 2, 1) := by decide +kernel
theorem dX6_fullest_31 : decode cX6_fullest 31 = .ok (.invokevirtual 207, 3) := by decide +kernel
theorem dX6_fullest_34 : decode cX6_fullest 34 = .ok (.bipush (-9), 2) := by decide +kernel
theorem dX6_fullest_36 : decode cX6_fullest 36 = .ok (.if_icmp .eq 6, 3) := by decide +kernel
theorem dX6_fullest_39 : decode cX6_fullest 39 = .ok (.iinc 1 1, 3) := by decide +kernel
theorem dX6_fullest_42 : decode cX6_fullest 42 = .ok (.iinc 2 1, 3) := by decide +kernel
theorem dX6_fullest_45 : decode cX6_fullest 45 = .ok (.goto (-30), 3) := by decide +kernel
theorem dX6_fullest_48 : decode cX6_fullest 48 = .ok (.aload_n 0, 1) := by decide +kernel
theorem dX6_fullest_49 : decode cX6_fullest 49 = .ok (.iload_n 1, 1) := by decide +kernel
theorem dX6_fullest_50 : decode cX6_fullest 50 = .ok (.putfield 52, 3) := by decide +kernel
theorem dX6_fullest_53 : decode cX6_fullest 53 = .ok (.aload_n 0, 1) := by decide +kernel
theorem dX6_fullest_54 : decode cX6_fullest 54 = .ok (.getfield 31, 3) := by decide +kernel
theorem dX6_fullest_57 : decode cX6_fullest 57 = .ok (.getfield 210, 3) := by decide +kernel
theorem dX6_fullest_60 : decode cX6_fullest 60 = .ok (.ireturn, 1) := by decide +kernel
def F_X6_fullest_L15 (n : Nat) (a0 : Nat) (S8 : aSt) (K48 : Int32 → Option (Int32 × aSt)) : Nat → Int32 → Int32 → Option (Int32 × aSt)
  | 0, _, _ => none
  | fu + 1, l15_1, l15_2 =>
    rfd (S8.2.2 a0 6) 0 fun k17 =>
    if (S8.1 k17 8) ≤ l15_2 then (K48 l15_1) else
    rfd (S8.2.2 a0 4) 1 fun k27 =>
    (F_X2_sureCard n S8 k27 l15_2).bind fun r31 =>
    jn (fun (j42_1 : Int32) => (F_X6_fullest_L15 n a0 S8 K48 fu j42_1 (l15_2 + (1 : Int32)) : Option (Int32 × aSt))) fun K42 =>
    if r31 = (-9 : Int32) then (K42 l15_1) else
    K42 (l15_1 + (1 : Int32))
def F_X6_fullest (n : Nat) (S : aSt) (a0 : Nat) : Option (Int32 × aSt) :=
rfd (S.2.2 a0 4) 1 fun k1 =>
rfd (S.2.2 a0 6) 0 fun k5 =>
(F_X2_countIn n S k1 k5).bind fun S8 =>
jn (fun (x48_1 : Int32) => (nm (stI S8 a0 8 x48_1) fun S50 =>
rfd (S50.2.2 a0 4) 1 fun k54 =>
some ((S50.1 k54 7), S50) : Option (Int32 × aSt))) fun K48 =>
F_X6_fullest_L15 n a0 S8 K48 n (0 : Int32) (0 : Int32)
set_option maxHeartbeats 4000000 in
set_option maxRecDepth 100000 in
theorem C_X6_fullest (G : aG) (l : Launch) (n : Nat) (S : aSt) (a0 : Nat) (r : Int32) (Sr : aSt) (ha0 : isT a0 5 = true) (hf : F_X6_fullest n S a0 = some (r, Sr)) : Ctr G l yX6_fullest mX6_fullest (rmM 7) 97 97 S [.ref a0] (some (.int r)) Sr := by
  refine Ctr.of (by decide) rfl rfl (Nat.le_of_ble_eq_true rfl) [(0, .ref a0)] rfl ?_
  unfold F_X6_fullest at hf
  refine Go.aload_n 0 1 rfl dX6_fullest_0 rfl ?_
  obtain ⟨k1, qk1, hk1, hf⟩ := f_rfd hf
  refine Go.getR 4 rfl dX6_fullest_1 fl_X6_31 rfl (isT_lt ha0) (isT_sh ha0) qk1 ?_
  refine Go.aload_n 0 5 rfl dX6_fullest_4 rfl ?_
  obtain ⟨k5, qk5, hk5, hf⟩ := f_rfd hf
  refine Go.getR 8 rfl dX6_fullest_5 fl_X6_45 rfl (isT_lt ha0) (isT_sh ha0) qk5 ?_
  obtain ⟨S8, eS8, hf⟩ := f_bnd hf
  refine Go.cVv 11 [.ref k5] [] (C_X2_countIn G l n S k1 k5 S8 hk1 hk5 eS8) rfl dX6_fullest_8 cv_X6_189 hk1 (by decide) (by decide) rfl (Nat.le_of_ble_eq_true rfl) ?_
  refine Go.iconst (0 : Int32) 12 rfl dX6_fullest_11 ci_0 ?_
  refine Go.istore_n 13 [(1, .int (0 : Int32)), (0, .ref a0)] rfl dX6_fullest_12 (by decide) rfl ?_
  refine Go.iconst (0 : Int32) 14 rfl dX6_fullest_13 ci_0 ?_
  refine Go.istore_n 15 [(2, .int (0 : Int32)), (1, .int (0 : Int32)), (0, .ref a0)] rfl dX6_fullest_14 (by decide) rfl ?_
  obtain ⟨K48, eK48, hf⟩ := f_jn hf
  have J48 : ∀ (x48_1 : Int32), K48 x48_1 = some (r, Sr) → GoM G l 7 (TmR G (some (.int r)) 97 Sr 0 0) mX6_fullest 48 [(0, .ref a0), (1, .int x48_1)] [] S8 := by
    intro x48_1 hf
    rw [eK48] at hf
    refine Go.aload_n 0 49 rfl dX6_fullest_48 rfl ?_
    refine Go.iload_n 1 50 rfl dX6_fullest_49 rfl ?_
    obtain ⟨S50, eS50, hf⟩ := f_nm hf
    refine Go.putI 53 rfl dX6_fullest_50 fp_X6_52 rfl (isT_lt ha0) (isT_sh ha0) (fun h => by cases h) (Go.stt S50 eS50 ?_)
    refine Go.aload_n 0 54 rfl dX6_fullest_53 rfl ?_
    obtain ⟨k54, qk54, hk54, hf⟩ := f_rfd hf
    refine Go.getR 57 rfl dX6_fullest_54 fl_X6_31 rfl (isT_lt ha0) (isT_sh ha0) qk54 ?_
    refine Go.getI 60 rfl dX6_fullest_57 fl_X6_210 rfl (isT_lt hk54) (isT_sh hk54) ?_
    exact Go.irS rfl dX6_fullest_60 hf
  clear eK48
  have L15 : ∀ (fu : Nat) (l15_1 : Int32) (l15_2 : Int32), F_X6_fullest_L15 n a0 S8 K48 fu l15_1 l15_2 = some (r, Sr) → GoM G l 7 (TmR G (some (.int r)) 97 Sr 0 0) mX6_fullest 15 [(0, .ref a0), (1, .int l15_1), (2, .int l15_2)] [] S8 := by
    intro fu
    induction fu with
    | zero => intro l15_1 l15_2 hf; rw [F_X6_fullest_L15] at hf; cases hf
    | succ fu ih =>
      intro l15_1 l15_2 hf
      rw [F_X6_fullest_L15] at hf
      refine Go.iload_n 2 16 rfl dX6_fullest_15 rfl ?_
      refine Go.aload_n 0 17 rfl dX6_fullest_16 rfl ?_
      obtain ⟨k17, qk17, hk17, hf⟩ := f_rfd hf
      refine Go.getR 20 rfl dX6_fullest_17 fl_X6_45 rfl (isT_lt ha0) (isT_sh ha0) qk17 ?_
      refine Go.getI 23 rfl dX6_fullest_20 fl_X6_204 rfl (isT_lt hk17) (isT_sh hk17) ?_
      refine Go.icmp_ge 48 26 rfl dX6_fullest_23 rfl (fun hc => ?_) (fun hc => ?_)
      · replace hf := f_if hf hc
        exact Go.sub [0, 1] [(0, .ref a0), (1, .int l15_1)] rfl (J48 l15_1 hf)
      · replace hf := f_el hf hc
        refine Go.aload_n 0 27 rfl dX6_fullest_26 rfl ?_
        obtain ⟨k27, qk27, hk27, hf⟩ := f_rfd hf
        refine Go.getR 30 rfl dX6_fullest_27 fl_X6_31 rfl (isT_lt ha0) (isT_sh ha0) qk27 ?_
        refine Go.iload_n 2 31 rfl dX6_fullest_30 rfl ?_
        obtain ⟨r31, er31, hf⟩ := f_bnd hf
        refine Go.cV 34 [.int l15_2] [] (C_X2_sureCard G l n S8 k27 l15_2 r31 hk27 er31) rfl dX6_fullest_31 cv_X6_207 hk27 (by decide) (by decide) rfl (Nat.le_of_ble_eq_true rfl) ?_
        refine Go.bipush (-9 : Int32) 36 rfl dX6_fullest_34 cb_m9 ?_
        obtain ⟨K42, eK42, hf⟩ := f_jn hf
        have J42 : ∀ (j42_1 : Int32), K42 j42_1 = some (r, Sr) → GoM G l 7 (TmR G (some (.int r)) 97 Sr 0 0) mX6_fullest 42 [(0, .ref a0), (1, .int j42_1), (2, .int l15_2)] [] S8 := by
          intro j42_1 hf
          rw [eK42] at hf
          refine Go.inc 2 45 (1 : Int32) [(2, .int (l15_2 + (1 : Int32))), (0, .ref a0), (1, .int j42_1)] rfl dX6_fullest_42 rfl ci_1 (by decide) rfl ?_
          refine Go.goto 15 dX6_fullest_45 rfl ?_
          exact Go.sub [1, 2, 0] [(0, .ref a0), (1, .int j42_1), (2, .int (l15_2 + (1 : Int32)))] rfl (ih j42_1 (l15_2 + (1 : Int32)) hf)
        clear eK42
        refine Go.icmp_eq 42 39 rfl dX6_fullest_36 rfl (fun hc => ?_) (fun hc => ?_)
        · replace hf := f_if hf hc
          exact J42 l15_1 hf
        · replace hf := f_el hf hc
          refine Go.inc 1 42 (1 : Int32) [(1, .int (l15_1 + (1 : Int32))), (0, .ref a0), (2, .int l15_2)] rfl dX6_fullest_39 rfl ci_1 (by decide) rfl ?_
          exact Go.sub [1, 0, 2] [(0, .ref a0), (1, .int (l15_1 + (1 : Int32))), (2, .int l15_2)] rfl (J42 (l15_1 + (1 : Int32)) hf)
  exact Go.sub [2, 1, 0] [(0, .ref a0), (1, .int (0 : Int32)), (2, .int (0 : Int32))] rfl (L15 n (0 : Int32) (0 : Int32) hf)
theorem dX6_may_0 : decode cX6_may 0 = .ok (.aload_n 0, 1) := by decide +kernel
theorem dX6_may_1 : decode cX6_may 1 = .ok (.getfield 45, 3) := by decide +kernel
theorem dX6_may_4 : decode cX6_may 4 = .ok (.iload_n 1, 1) := by decide +kernel
theorem dX6_may_5 : decode cX6_may 5 = .ok (.invokevirtual 118, 3) := by decide +kernel
theorem dX6_may_8 : decode cX6_may 8 = .ok (.ifCond .ne 5, 3) := by decide +kernel
theorem dX6_may_11 : decode cX6_may 11 = .ok (.iconst (-1), 1) := by decide +kernel
theorem dX6_may_12 : decode cX6_may 12 = .ok (.ireturn, 1) := by decide +kernel
theorem dX6_may_13 : decode cX6_may 13 = .ok (.aload_n 0, 1) := by decide +kernel
theorem dX6_may_14 : decode cX6_may 14 = .ok (.getfield 31, 3) := by decide +kernel
theorem dX6_may_17 : decode cX6_may 17 = .ok (.aload_n 0, 1) := by decide +kernel
theorem dX6_may_18 : decode cX6_may 18 = .ok (.getfield 45, 3) := by decide +kernel
theorem dX6_may_21 : decode cX6_may 21 = .ok (.invokevirtual 189, 3) := by decide +kernel
theorem dX6_may_24 : decode cX6_may 24 = .ok (.iconst 0, 1) := by decide +kernel
theorem dX6_may_25 : decode cX6_may 25 = .ok (.istore_n 2, 1) := by decide +kernel
theorem dX6_may_26 : decode cX6_may 26 = .ok (.iconst 0, 1) := by decide +kernel
theorem dX6_may_27 : decode cX6_may 27 = .ok (.istore_n 3, 1) := by decide +kernel
theorem dX6_may_28 : decode cX6_may 28 = .ok (.iload_n 3, 1) := by decide +kernel
theorem dX6_may_29 : decode cX6_may 29 = .ok (.aload_n 0, 1) := by decide +kernel
theorem dX6_may_30 : decode cX6_may 30 = .ok (.getfield 45, 3) := by decide +kernel
theorem dX6_may_33 : decode cX6_may 33 = .ok (.getfield 204, 3) := by decide +kernel
theorem dX6_may_36 : decode cX6_may 36 = .ok (.if_icmp .ge 27, 3) := by decide +kernel
theorem dX6_may_39 : decode cX6_may 39 = .ok (.aload_n 0, 1) := by decide +kernel
theorem dX6_may_40 : decode cX6_may 40 = .ok (.getfield 31, 3) := by decide +kernel
theorem dX6_may_43 : decode cX6_may 43 = .ok (.iload_n 3, 1) := by decide +kernel
theorem dX6_may_44 : decode cX6_may 44 = .ok (.iload_n 1, 1) := by decide +kernel
theorem dX6_may_45 : decode cX6_may 45 = .ok (.invokevirtual 213, 3) := by decide +kernel
theorem dX6_may_48 : decode cX6_may 48 = .ok (.ifCond .le 9, 3) := by decide +kernel
theorem dX6_may_51 : decode cX6_may 51 = .ok (.iload_n 2, 1) := by decide +kernel
theorem dX6_may_52 : decode cX6_may 52 = .ok (.iconst 1, 1) := by decide +kernel
theorem dX6_may_53 : decode cX6_may 53 = .ok (.iload_n 3, 1) := by decide +kernel
theorem dX6_may_54 : decode cX6_may 54 = .ok (.ishl, 1) := by decide +kernel
theorem dX6_may_55 : decode cX6_may 55 = .ok (.ior, 1) := by decide +kernel
theorem dX6_may_56 : decode cX6_may 56 = .ok (.istore_n 2, 1) := by decide +kernel
theorem dX6_may_57 : decode cX6_may 57 = .ok (.iinc 3 1, 3) := by decide +kernel
theorem dX6_may_60 : decode cX6_may 60 = .ok (.goto (-32), 3) := by decide +kernel
theorem dX6_may_63 : decode cX6_may 63 = .ok (.iload_n 2, 1) := by decide +kernel
theorem dX6_may_64 : decode cX6_may 64 = .ok (.ireturn, 1) := by decide +kernel
def F_X6_may_L28 (n : Nat) (a0 : Nat) (a1 : Int32) (S21 : aSt) (K63 : Int32 → Option (Int32 × aSt)) : Nat → Int32 → Int32 → Option (Int32 × aSt)
  | 0, _, _ => none
  | fu + 1, l28_2, l28_3 =>
    rfd (S21.2.2 a0 6) 0 fun k30 =>
    if (S21.1 k30 8) ≤ l28_3 then (K63 l28_2) else
    rfd (S21.2.2 a0 4) 1 fun k40 =>
    (F_X2_countWith n S21 k40 l28_3 a1).bind fun r45 =>
    jn (fun (j57_2 : Int32) => (F_X6_may_L28 n a0 a1 S21 K63 fu j57_2 (l28_3 + (1 : Int32)) : Option (Int32 × aSt))) fun K57 =>
    if r45 ≤ 0 then (K57 l28_2) else
    nm (l28_2 ||| ((1 : Int32) <<< (l28_3 &&& 31))) fun v56 =>
    K57 v56
def F_X6_may (n : Nat) (S : aSt) (a0 : Nat) (a1 : Int32) : Option (Int32 × aSt) :=
rfd (S.2.2 a0 6) 0 fun k1 =>
(F_X1_isCard n S k1 a1).bind fun r5 =>
if r5 = 0 then (some ((-1 : Int32), S)) else
rfd (S.2.2 a0 4) 1 fun k14 =>
(F_X2_countIn n S k14 k1).bind fun S21 =>
jn (fun (x63_2 : Int32) => (some (x63_2, S21) : Option (Int32 × aSt))) fun K63 =>
F_X6_may_L28 n a0 a1 S21 K63 n (0 : Int32) (0 : Int32)
set_option maxHeartbeats 4000000 in
set_option maxRecDepth 100000 in
theorem C_X6_may (G : aG) (l : Launch) (n : Nat) (S : aSt) (a0 : Nat) (a1 : Int32) (r : Int32) (Sr : aSt) (ha0 : isT a0 5 = true) (hf : F_X6_may n S a0 a1 = some (r, Sr)) : Ctr G l yX6_may mX6_may (rmM 7) 97 97 S [.ref a0, .int a1] (some (.int r)) Sr := by
  refine Ctr.of (by decide) rfl rfl (Nat.le_of_ble_eq_true rfl) [(0, .ref a0), (1, .int a1)] rfl ?_
  unfold F_X6_may at hf
  refine Go.aload_n 0 1 rfl dX6_may_0 rfl ?_
  obtain ⟨k1, qk1, hk1, hf⟩ := f_rfd hf
  refine Go.getR 4 rfl dX6_may_1 fl_X6_45 rfl (isT_lt ha0) (isT_sh ha0) qk1 ?_
  refine Go.iload_n 1 5 rfl dX6_may_4 rfl ?_
  obtain ⟨r5, er5, hf⟩ := f_bnd hf
  refine Go.cV 8 [.int a1] [] (C_X1_isCard G l n S k1 a1 r5 hk1 er5) rfl dX6_may_5 cv_X6_118 hk1 (by decide) (by decide) rfl (Nat.le_of_ble_eq_true rfl) ?_
  refine Go.if_ne 13 11 rfl dX6_may_8 rfl (fun hc => ?_) (fun hc => ?_)
  · replace hf := f_el hf hc
    refine Go.aload_n 0 14 rfl dX6_may_13 rfl ?_
    obtain ⟨k14, qk14, hk14, hf⟩ := f_rfd hf
    refine Go.getR 17 rfl dX6_may_14 fl_X6_31 rfl (isT_lt ha0) (isT_sh ha0) qk14 ?_
    refine Go.aload_n 0 18 rfl dX6_may_17 rfl ?_
    refine Go.getR 21 rfl dX6_may_18 fl_X6_45 rfl (isT_lt ha0) (isT_sh ha0) qk1 ?_
    obtain ⟨S21, eS21, hf⟩ := f_bnd hf
    refine Go.cVv 24 [.ref k1] [] (C_X2_countIn G l n S k14 k1 S21 hk14 hk1 eS21) rfl dX6_may_21 cv_X6_189 hk14 (by decide) (by decide) rfl (Nat.le_of_ble_eq_true rfl) ?_
    refine Go.iconst (0 : Int32) 25 rfl dX6_may_24 ci_0 ?_
    refine Go.istore_n 26 [(2, .int (0 : Int32)), (0, .ref a0), (1, .int a1)] rfl dX6_may_25 (by decide) rfl ?_
    refine Go.iconst (0 : Int32) 27 rfl dX6_may_26 ci_0 ?_
    refine Go.istore_n 28 [(3, .int (0 : Int32)), (2, .int (0 : Int32)), (0, .ref a0), (1, .int a1)] rfl dX6_may_27 (by decide) rfl ?_
    obtain ⟨K63, eK63, hf⟩ := f_jn hf
    have J63 : ∀ (x63_2 : Int32), K63 x63_2 = some (r, Sr) → GoM G l 7 (TmR G (some (.int r)) 97 Sr 0 0) mX6_may 63 [(2, .int x63_2)] [] S21 := by
      intro x63_2 hf
      rw [eK63] at hf
      refine Go.iload_n 0 64 rfl dX6_may_63 rfl ?_
      exact Go.irS rfl dX6_may_64 hf
    clear eK63
    have L28 : ∀ (fu : Nat) (l28_2 : Int32) (l28_3 : Int32), F_X6_may_L28 n a0 a1 S21 K63 fu l28_2 l28_3 = some (r, Sr) → GoM G l 7 (TmR G (some (.int r)) 97 Sr 0 0) mX6_may 28 [(0, .ref a0), (1, .int a1), (2, .int l28_2), (3, .int l28_3)] [] S21 := by
      intro fu
      induction fu with
      | zero => intro l28_2 l28_3 hf; rw [F_X6_may_L28] at hf; cases hf
      | succ fu ih =>
        intro l28_2 l28_3 hf
        rw [F_X6_may_L28] at hf
        refine Go.iload_n 3 29 rfl dX6_may_28 rfl ?_
        refine Go.aload_n 0 30 rfl dX6_may_29 rfl ?_
        obtain ⟨k30, qk30, hk30, hf⟩ := f_rfd hf
        refine Go.getR 33 rfl dX6_may_30 fl_X6_45 rfl (isT_lt ha0) (isT_sh ha0) qk30 ?_
        refine Go.getI 36 rfl dX6_may_33 fl_X6_204 rfl (isT_lt hk30) (isT_sh hk30) ?_
        refine Go.icmp_ge 63 39 rfl dX6_may_36 rfl (fun hc => ?_) (fun hc => ?_)
        · replace hf := f_if hf hc
          exact Go.sub [2] [(2, .int l28_2)] rfl (J63 l28_2 hf)
        · replace hf := f_el hf hc
          refine Go.aload_n 0 40 rfl dX6_may_39 rfl ?_
          obtain ⟨k40, qk40, hk40, hf⟩ := f_rfd hf
          refine Go.getR 43 rfl dX6_may_40 fl_X6_31 rfl (isT_lt ha0) (isT_sh ha0) qk40 ?_
          refine Go.iload_n 3 44 rfl dX6_may_43 rfl ?_
          refine Go.iload_n 1 45 rfl dX6_may_44 rfl ?_
          obtain ⟨r45, er45, hf⟩ := f_bnd hf
          refine Go.cV 48 [.int l28_3, .int a1] [] (C_X2_countWith G l n S21 k40 l28_3 a1 r45 hk40 er45) rfl dX6_may_45 cv_X6_213 hk40 (by decide) (by decide) rfl (Nat.le_of_ble_eq_true rfl) ?_
          obtain ⟨K57, eK57, hf⟩ := f_jn hf
          have J57 : ∀ (j57_2 : Int32), K57 j57_2 = some (r, Sr) → GoM G l 7 (TmR G (some (.int r)) 97 Sr 0 0) mX6_may 57 [(0, .ref a0), (1, .int a1), (2, .int j57_2), (3, .int l28_3)] [] S21 := by
            intro j57_2 hf
            rw [eK57] at hf
            refine Go.inc 3 60 (1 : Int32) [(3, .int (l28_3 + (1 : Int32))), (0, .ref a0), (1, .int a1), (2, .int j57_2)] rfl dX6_may_57 rfl ci_1 (by decide) rfl ?_
            refine Go.goto 28 dX6_may_60 rfl ?_
            exact Go.sub [1, 2, 3, 0] [(0, .ref a0), (1, .int a1), (2, .int j57_2), (3, .int (l28_3 + (1 : Int32)))] rfl (ih j57_2 (l28_3 + (1 : Int32)) hf)
          clear eK57
          refine Go.if_le 57 51 rfl dX6_may_48 rfl (fun hc => ?_) (fun hc => ?_)
          · replace hf := f_if hf hc
            exact J57 l28_2 hf
          · replace hf := f_el hf hc
            refine Go.iload_n 2 52 rfl dX6_may_51 rfl ?_
            refine Go.iconst (1 : Int32) 53 rfl dX6_may_52 ci_1 ?_
            refine Go.iload_n 3 54 rfl dX6_may_53 rfl ?_
            refine Go.ishl 55 rfl dX6_may_54 ?_
            refine Go.ior 56 rfl dX6_may_55 ?_
            obtain ⟨v56, ev56, hf⟩ := f_nm hf
            refine Go.topi v56 ev56 ?_
            refine Go.istore_n 57 [(2, .int v56), (0, .ref a0), (1, .int a1), (3, .int l28_3)] rfl dX6_may_56 (by decide) rfl ?_
            exact Go.sub [1, 2, 0, 3] [(0, .ref a0), (1, .int a1), (2, .int v56), (3, .int l28_3)] rfl (J57 v56 hf)
    exact Go.sub [2, 3, 1, 0] [(0, .ref a0), (1, .int a1), (2, .int (0 : Int32)), (3, .int (0 : Int32))] rfl (L28 n (0 : Int32) (0 : Int32) hf)
  · replace hf := f_if hf hc
    refine Go.iconst (-1 : Int32) 12 rfl dX6_may_11 ci_m1 ?_
    exact Go.irS rfl dX6_may_12 hf
theorem dX6_sure_0 : decode cX6_sure 0 = .ok (.aload_n 0, 1) := by decide +kernel
theorem dX6_sure_1 : decode cX6_sure 1 = .ok (.getfield 45, 3) := by decide +kernel
theorem dX6_sure_4 : decode cX6_sure 4 = .ok (.iload_n 1, 1) := by decide +kernel
theorem dX6_sure_5 : decode cX6_sure 5 = .ok (.invokevirtual 125, 3) := by decide +kernel
theorem dX6_sure_8 : decode cX6_sure 8 = .ok (.ifCond .ne 5, 3) := by decide +kernel
theorem dX6_sure_11 : decode cX6_sure 11 = .ok (.iconst (-1), 1) := by decide +kernel
theorem dX6_sure_12 : decode cX6_sure 12 = .ok (.ireturn, 1) := by decide +kernel
theorem dX6_sure_13 : decode cX6_sure 13 = .ok (.aload_n 0, 1) := by decide +kernel
theorem dX6_sure_14 : decode cX6_sure 14 = .ok (.getfield 31, 3) := by decide +kernel
theorem dX6_sure_17 : decode cX6_sure 17 = .ok (.aload_n 0, 1) := by decide +kernel
theorem dX6_sure_18 : decode cX6_sure 18 = .ok (.getfield 45, 3) := by decide +kernel
theorem dX6_sure_21 : decode cX6_sure 21 = .ok (.invokevirtual 189, 3) := by decide +kernel
theorem dX6_sure_24 : decode cX6_sure 24 = .ok (.aload_n 0, 1) := by decide +kernel
theorem dX6_sure_25 : decode cX6_sure 25 = .ok (.getfield 31, 3) := by decide +kernel
theorem dX6_sure_28 : decode cX6_sure 28 = .ok (.iload_n 1, 1) := by decide +kernel
theorem dX6_sure_29 : decode cX6_sure 29 = .ok (.invokevirtual 207, 3) := by decide +kernel
theorem dX6_sure_32 : decode cX6_sure 32 = .ok (.ireturn, 1) := by decide +kernel
def F_X6_sure (n : Nat) (S : aSt) (a0 : Nat) (a1 : Int32) : Option (Int32 × aSt) :=
rfd (S.2.2 a0 6) 0 fun k1 =>
(F_X1_isQuestion n S k1 a1).bind fun r5 =>
if r5 = 0 then (some ((-1 : Int32), S)) else
rfd (S.2.2 a0 4) 1 fun k14 =>
(F_X2_countIn n S k14 k1).bind fun S21 =>
rfd (S21.2.2 a0 4) 1 fun k25 =>
(F_X2_sureCard n S21 k25 a1).bind fun r29 =>
some (r29, S21)
set_option maxHeartbeats 4000000 in
set_option maxRecDepth 100000 in
theorem C_X6_sure (G : aG) (l : Launch) (n : Nat) (S : aSt) (a0 : Nat) (a1 : Int32) (r : Int32) (Sr : aSt) (ha0 : isT a0 5 = true) (hf : F_X6_sure n S a0 a1 = some (r, Sr)) : Ctr G l yX6_sure mX6_sure (rmM 7) 97 97 S [.ref a0, .int a1] (some (.int r)) Sr := by
  refine Ctr.of (by decide) rfl rfl (Nat.le_of_ble_eq_true rfl) [(0, .ref a0), (1, .int a1)] rfl ?_
  unfold F_X6_sure at hf
  refine Go.aload_n 0 1 rfl dX6_sure_0 rfl ?_
  obtain ⟨k1, qk1, hk1, hf⟩ := f_rfd hf
  refine Go.getR 4 rfl dX6_sure_1 fl_X6_45 rfl (isT_lt ha0) (isT_sh ha0) qk1 ?_
  refine Go.iload_n 1 5 rfl dX6_sure_4 rfl ?_
  obtain ⟨r5, er5, hf⟩ := f_bnd hf
  refine Go.cV 8 [.int a1] [] (C_X1_isQuestion G l n S k1 a1 r5 hk1 er5) rfl dX6_sure_5 cv_X6_125 hk1 (by decide) (by decide) rfl (Nat.le_of_ble_eq_true rfl) ?_
  refine Go.if_ne 13 11 rfl dX6_sure_8 rfl (fun hc => ?_) (fun hc => ?_)
  · replace hf := f_el hf hc
    refine Go.aload_n 0 14 rfl dX6_sure_13 rfl ?_
    obtain ⟨k14, qk14, hk14, hf⟩ := f_rfd hf
    refine Go.getR 17 rfl dX6_sure_14 fl_X6_31 rfl (isT_lt ha0) (isT_sh ha0) qk14 ?_
    refine Go.aload_n 0 18 rfl dX6_sure_17 rfl ?_
    refine Go.getR 21 rfl dX6_sure_18 fl_X6_45 rfl (isT_lt ha0) (isT_sh ha0) qk1 ?_
    obtain ⟨S21, eS21, hf⟩ := f_bnd hf
    refine Go.cVv 24 [.ref k1] [] (C_X2_countIn G l n S k14 k1 S21 hk14 hk1 eS21) rfl dX6_sure_21 cv_X6_189 hk14 (by decide) (by decide) rfl (Nat.le_of_ble_eq_true rfl) ?_
    refine Go.aload_n 0 25 rfl dX6_sure_24 rfl ?_
    obtain ⟨k25, qk25, hk25, hf⟩ := f_rfd hf
    refine Go.getR 28 rfl dX6_sure_25 fl_X6_31 rfl (isT_lt ha0) (isT_sh ha0) qk25 ?_
    refine Go.iload_n 1 29 rfl dX6_sure_28 rfl ?_
    obtain ⟨r29, er29, hf⟩ := f_bnd hf
    refine Go.cV 32 [.int a1] [] (C_X2_sureCard G l n S21 k25 a1 r29 hk25 er29) rfl dX6_sure_29 cv_X6_207 hk25 (by decide) (by decide) rfl (Nat.le_of_ble_eq_true rfl) ?_
    exact Go.irS rfl dX6_sure_32 hf
  · replace hf := f_if hf hc
    refine Go.iconst (-1 : Int32) 12 rfl dX6_sure_11 ci_m1 ?_
    exact Go.irS rfl dX6_sure_12 hf
theorem dX6_test_0 : decode cX6_test 0 = .ok (.aload_n 0, 1) := by decide +kernel
theorem dX6_test_1 : decode cX6_test 1 = .ok (.getfield 31, 3) := by decide +kernel
theorem dX6_test_4 : decode cX6_test 4 = .ok (.aload_n 0, 1) := by decide +kernel
theorem dX6_test_5 : decode cX6_test 5 = .ok (.getfield 45, 3) := by decide +kernel
theorem dX6_test_8 : decode cX6_test 8 = .ok (.invokevirtual 189, 3) := by decide +kernel
theorem dX6_test_11 : decode cX6_test 11 = .ok (.bipush (-9), 2) := by decide +kernel
theorem dX6_test_13 : decode cX6_test 13 = .ok (.istore_n 1, 1) := by decide +kernel
theorem dX6_test_14 : decode cX6_test 14 = .ok (.aload_n 0, 1) := by decide +kernel
theorem dX6_test_15 : decode cX6_test 15 = .ok (.getfield 31, 3) := by decide +kernel
theorem dX6_test_18 : decode cX6_test 18 = .ok (.getfield 210, 3) := by decide +kernel
theorem dX6_test_21 : decode cX6_test 21 = .ok (.istore_n 2, 1) := by decide +kernel
theorem dX6_test_22 : decode cX6_test 22 = .ok (.iconst 0, 1) := by decide +kernel
theorem dX6_test_23 : decode cX6_test 23 = .ok (.istore_n 3, 1) := by decide +kernel
theorem dX6_test_24 : decode cX6_test 24 = .ok (.iload_n 3, 1) := by decide +kernel
theorem dX6_test_25 : decode cX6_test 25 = .ok (.aload_n 0, 1) := by decide +kernel
theorem dX6_test_26 : decode cX6_test 26 = .ok (.getfield 45, 3) := by decide +kernel
theorem dX6_test_29 : decode cX6_test 29 = .ok (.getfield 204, 3) := by decide +kernel
theorem dX6_test_32 : decode cX6_test 32 = .ok (.if_icmp .ge 76, 3) := by decide +kernel
theorem dX6_test_35 : decode cX6_test 35 = .ok (.iconst 0, 1) := by decide +kernel
theorem dX6_test_36 : decode cX6_test 36 = .ok (.istore 4, 2) := by decide +kernel
theorem dX6_test_38 : decode cX6_test 38 = .ok (.iload 4, 2) := by decide +kernel
theorem dX6_test_40 : decode cX6_test 40 = .ok (.aload_n 0, 1) := by decide +kernel
theorem dX6_test_41 : decode cX6_test 41 = .ok (.getfield 45, 3) := by decide +kernel
theorem dX6_test_44 : decode cX6_test 44 = .ok (.getfield 115, 3) := by decide +kernel
theorem dX6_test_47 : decode cX6_test 47 = .ok (.if_icmp .ge 55, 3) := by decide +kernel
theorem dX6_test_50 : decode cX6_test 50 = .ok (.aload_n 0, 1) := by decide +kernel
theorem dX6_test_51 : decode cX6_test 51 = .ok (.getfield 31, 3) := by decide +kernel
theorem dX6_test_54 : decode cX6_test 54 = .ok (.iload_n 3, 1) := by decide +kernel
theorem dX6_test_55 : decode cX6_test 55 = .ok (.iload 4, 2) := by decide +kernel
theorem dX6_test_57 : decode cX6_test 57 = .ok (.invokevirtual 213, 3) := by decide +kernel
theorem dX6_test_60 : decode cX6_test 60 = .ok (.istore 5, 2) := by decide +kernel
theorem dX6_test_62 : decode cX6_test 62 = .ok (.iload 5, 2) := by decide +kernel
theorem dX6_test_64 : decode cX6_test 64 = .ok (.aload_n 0, 1) := by decide +kernel
theorem dX6_test_65 : decode cX6_test 65 = .ok (.getfield 31, 3) := by decide +kernel
theorem dX6_test_68 : decode cX6_test 68 = .ok (.getfield 210, 3) := by decide +kernel
theorem dX6_test_71 : decode cX6_test 71 = .ok (.iload 5, 2) := by decide +kernel
theorem dX6_test_73 : decode cX6_test 73 = .ok (.isub, 1) := by decide +kernel
theorem dX6_test_74 : decode cX6_test 74 = .ok (.invokestatic 216, 3) := by decide +kernel
theorem dX6_test_77 : decode cX6_test 77 = .ok (.istore 6, 2) := by decide +kernel
theorem dX6_test_79 : decode cX6_test 79 = .ok (.iload 6, 2) := by decide +kernel
theorem dX6_test_81 : decode cX6_test 81 = .ok (.iload_n 2, 1) := by decide +kernel
theorem dX6_test_82 : decode cX6_test 82 = .ok (.if_icmp .ge 14, 3) := by decide +kernel
theorem dX6_test_85 : decode cX6_test 85 = .ok (.iload 6, 2) := by decide +kernel
theorem dX6_test_87 : decode cX6_test 87 = .ok (.istore_n 2, 1) := by decide +kernel
theorem dX6_test_88 : decode cX6_test 88 = .ok (.bipush 10, 2) := by decide +kernel
theorem dX6_test_90 : decode cX6_test 90 = .ok (.iload_n 3, 1) := by decide +kernel
theorem dX6_test_91 : decode cX6_test 91 = .ok (.imul, 1) := by decide +kernel
theorem dX6_test_92 : decode cX6_test 92 = .ok (.iload 4, 2) := by decide +kernel
theorem dX6_test_94 : decode cX6_test 94 = .ok (.iadd, 1) := by decide +kernel
theorem dX6_test_95 : decode cX6_test 95 = .ok (.istore_n 1, 1) := by decide +kernel
theorem dX6_test_96 : decode cX6_test 96 = .ok (.iinc 4 1, 3) := by decide +kernel
theorem dX6_test_99 : decode cX6_test 99 = .ok (.goto (-61), 3) := by decide +kernel
theorem dX6_test_102 : decode cX6_test 102 = .ok (.iinc 3 1, 3) := by decide +kernel
theorem dX6_test_105 : decode cX6_test 105 = .ok (.goto (-81), 3) := by decide +kernel
theorem dX6_test_108 : decode cX6_test 108 = .ok (.iload_n 1, 1) := by decide +kernel
theorem dX6_test_109 : decode cX6_test 109 = .ok (.bipush (-9), 2) := by decide +kernel
theorem dX6_test_111 : decode cX6_test 111 = .ok (.if_icmp .eq 8, 3) := by decide +kernel
theorem dX6_test_114 : decode cX6_test 114 = .ok (.aload_n 0, 1) := by decide +kernel
theorem dX6_test_115 : decode cX6_test 115 = .ok (.iload_n 2, 1) := by decide +kernel
theorem dX6_test_116 : decode cX6_test 116 = .ok (.putfield 52, 3) := by decide +kernel
theorem dX6_test_119 : decode cX6_test 119 = .ok (.iload_n 1, 1) := by decide +kernel
theorem dX6_test_120 : decode cX6_test 120 = .ok (.ireturn, 1) := by decide +kernel
def F_X6_test_L38 (n : Nat) (S8 : aSt) (k15 : Nat) (l24_3 : Int32) (k26 : Nat) (K102 : Int32 → Int32 → Option (Int32 × aSt)) : Nat → Int32 → Int32 → Int32 → Option (Int32 × aSt)
  | 0, _, _, _ => none
  | fu + 1, l38_1, l38_2, l38_4 =>
    if (S8.1 k26 7) ≤ l38_4 then (K102 l38_1 l38_2) else
    (F_X2_countWith n S8 k15 l24_3 l38_4).bind fun r57 =>
    nm (if r57 < ((S8.1 k15 7) - r57) then ((S8.1 k15 7) - r57) else r57) fun v77 =>
    jn (fun (j96_1 : Int32) (j96_2 : Int32) => (F_X6_test_L38 n S8 k15 l24_3 k26 K102 fu j96_1 j96_2 (l38_4 + (1 : Int32)) : Option (Int32 × aSt))) fun K96 =>
    if l38_2 ≤ v77 then (K96 l38_1 l38_2) else
    nm (((10 : Int32) * l24_3) + l38_4) fun v95 =>
    K96 v95 v77
def F_X6_test_L24 (n : Nat) (a0 : Nat) (S8 : aSt) (k15 : Nat) (K108 : Int32 → Int32 → Option (Int32 × aSt)) : Nat → Int32 → Int32 → Int32 → Option (Int32 × aSt)
  | 0, _, _, _ => none
  | fu + 1, l24_1, l24_2, l24_3 =>
    rfd (S8.2.2 a0 6) 0 fun k26 =>
    if (S8.1 k26 8) ≤ l24_3 then (K108 l24_1 l24_2) else
    jn (fun (x102_1 : Int32) (x102_2 : Int32) => (F_X6_test_L24 n a0 S8 k15 K108 fu x102_1 x102_2 (l24_3 + (1 : Int32)) : Option (Int32 × aSt))) fun K102 =>
    F_X6_test_L38 n S8 k15 l24_3 k26 K102 n l24_1 l24_2 (0 : Int32)
def F_X6_test (n : Nat) (S : aSt) (a0 : Nat) : Option (Int32 × aSt) :=
rfd (S.2.2 a0 4) 1 fun k1 =>
rfd (S.2.2 a0 6) 0 fun k5 =>
(F_X2_countIn n S k1 k5).bind fun S8 =>
rfd (S8.2.2 a0 4) 1 fun k15 =>
nm (S8.1 k15 7) fun v21 =>
jn (fun (x108_1 : Int32) (x108_2 : Int32) => (jn (fun (j119S : aSt) => (some (x108_1, j119S) : Option (Int32 × aSt))) fun K119 =>
if x108_1 = (-9 : Int32) then (K119 S8) else
nm (stI S8 a0 8 x108_2) fun S116 =>
K119 S116 : Option (Int32 × aSt))) fun K108 =>
F_X6_test_L24 n a0 S8 k15 K108 n (-9 : Int32) v21 (0 : Int32)
set_option maxHeartbeats 4000000 in
set_option maxRecDepth 100000 in
theorem C_X6_test (G : aG) (l : Launch) (n : Nat) (S : aSt) (a0 : Nat) (r : Int32) (Sr : aSt) (ha0 : isT a0 5 = true) (hf : F_X6_test n S a0 = some (r, Sr)) : Ctr G l yX6_test mX6_test (rmM 7) 97 97 S [.ref a0] (some (.int r)) Sr := by
  refine Ctr.of (by decide) rfl rfl (Nat.le_of_ble_eq_true rfl) [(0, .ref a0)] rfl ?_
  unfold F_X6_test at hf
  refine Go.aload_n 0 1 rfl dX6_test_0 rfl ?_
  obtain ⟨k1, qk1, hk1, hf⟩ := f_rfd hf
  refine Go.getR 4 rfl dX6_test_1 fl_X6_31 rfl (isT_lt ha0) (isT_sh ha0) qk1 ?_
  refine Go.aload_n 0 5 rfl dX6_test_4 rfl ?_
  obtain ⟨k5, qk5, hk5, hf⟩ := f_rfd hf
  refine Go.getR 8 rfl dX6_test_5 fl_X6_45 rfl (isT_lt ha0) (isT_sh ha0) qk5 ?_
  obtain ⟨S8, eS8, hf⟩ := f_bnd hf
  refine Go.cVv 11 [.ref k5] [] (C_X2_countIn G l n S k1 k5 S8 hk1 hk5 eS8) rfl dX6_test_8 cv_X6_189 hk1 (by decide) (by decide) rfl (Nat.le_of_ble_eq_true rfl) ?_
  refine Go.bipush (-9 : Int32) 13 rfl dX6_test_11 cb_m9 ?_
  refine Go.istore_n 14 [(1, .int (-9 : Int32)), (0, .ref a0)] rfl dX6_test_13 (by decide) rfl ?_
  refine Go.aload_n 1 15 rfl dX6_test_14 rfl ?_
  obtain ⟨k15, qk15, hk15, hf⟩ := f_rfd hf
  refine Go.getR 18 rfl dX6_test_15 fl_X6_31 rfl (isT_lt ha0) (isT_sh ha0) qk15 ?_
  refine Go.getI 21 rfl dX6_test_18 fl_X6_210 rfl (isT_lt hk15) (isT_sh hk15) ?_
  obtain ⟨v21, ev21, hf⟩ := f_nm hf
  refine Go.topi v21 ev21 ?_
  refine Go.istore_n 22 [(2, .int v21), (1, .int (-9 : Int32)), (0, .ref a0)] rfl dX6_test_21 (by decide) rfl ?_
  refine Go.iconst (0 : Int32) 23 rfl dX6_test_22 ci_0 ?_
  refine Go.istore_n 24 [(3, .int (0 : Int32)), (2, .int v21), (1, .int (-9 : Int32)), (0, .ref a0)] rfl dX6_test_23 (by decide) rfl ?_
  obtain ⟨K108, eK108, hf⟩ := f_jn hf
  have J108 : ∀ (x108_1 : Int32) (x108_2 : Int32), K108 x108_1 x108_2 = some (r, Sr) → GoM G l 7 (TmR G (some (.int r)) 97 Sr 0 0) mX6_test 108 [(0, .ref a0), (1, .int x108_1), (2, .int x108_2)] [] S8 := by
    intro x108_1 x108_2 hf
    rw [eK108] at hf
    refine Go.iload_n 1 109 rfl dX6_test_108 rfl ?_
    refine Go.bipush (-9 : Int32) 111 rfl dX6_test_109 cb_m9 ?_
    obtain ⟨K119, eK119, hf⟩ := f_jn hf
    have J119 : ∀ (j119S : aSt), K119 j119S = some (r, Sr) → GoM G l 7 (TmR G (some (.int r)) 97 Sr 0 0) mX6_test 119 [(1, .int x108_1)] [] j119S := by
      intro j119S hf
      rw [eK119] at hf
      refine Go.iload_n 0 120 rfl dX6_test_119 rfl ?_
      exact Go.irS rfl dX6_test_120 hf
    clear eK119
    refine Go.icmp_eq 119 114 rfl dX6_test_111 rfl (fun hc => ?_) (fun hc => ?_)
    · replace hf := f_if hf hc
      exact Go.sub [1] [(1, .int x108_1)] rfl (J119 S8 hf)
    · replace hf := f_el hf hc
      refine Go.aload_n 0 115 rfl dX6_test_114 rfl ?_
      refine Go.iload_n 2 116 rfl dX6_test_115 rfl ?_
      obtain ⟨S116, eS116, hf⟩ := f_nm hf
      refine Go.putI 119 rfl dX6_test_116 fp_X6_52 rfl (isT_lt ha0) (isT_sh ha0) (fun h => by cases h) (Go.stt S116 eS116 ?_)
      exact Go.sub [1] [(1, .int x108_1)] rfl (J119 S116 hf)
  clear eK108
  have L24 : ∀ (fu : Nat) (l24_1 : Int32) (l24_2 : Int32) (l24_3 : Int32), F_X6_test_L24 n a0 S8 k15 K108 fu l24_1 l24_2 l24_3 = some (r, Sr) → GoM G l 7 (TmR G (some (.int r)) 97 Sr 0 0) mX6_test 24 [(0, .ref a0), (1, .int l24_1), (2, .int l24_2), (3, .int l24_3)] [] S8 := by
    intro fu
    induction fu with
    | zero => intro l24_1 l24_2 l24_3 hf; rw [F_X6_test_L24] at hf; cases hf
    | succ fu ih =>
      intro l24_1 l24_2 l24_3 hf
      rw [F_X6_test_L24] at hf
      refine Go.iload_n 3 25 rfl dX6_test_24 rfl ?_
      refine Go.aload_n 0 26 rfl dX6_test_25 rfl ?_
      obtain ⟨k26, qk26, hk26, hf⟩ := f_rfd hf
      refine Go.getR 29 rfl dX6_test_26 fl_X6_45 rfl (isT_lt ha0) (isT_sh ha0) qk26 ?_
      refine Go.getI 32 rfl dX6_test_29 fl_X6_204 rfl (isT_lt hk26) (isT_sh hk26) ?_
      refine Go.icmp_ge 108 35 rfl dX6_test_32 rfl (fun hc => ?_) (fun hc => ?_)
      · replace hf := f_if hf hc
        exact Go.sub [0, 1, 2] [(0, .ref a0), (1, .int l24_1), (2, .int l24_2)] rfl (J108 l24_1 l24_2 hf)
      · replace hf := f_el hf hc
        refine Go.iconst (0 : Int32) 36 rfl dX6_test_35 ci_0 ?_
        refine Go.istore 38 [(4, .int (0 : Int32)), (0, .ref a0), (1, .int l24_1), (2, .int l24_2), (3, .int l24_3)] rfl dX6_test_36 (by decide) rfl ?_
        obtain ⟨K102, eK102, hf⟩ := f_jn hf
        have J102 : ∀ (x102_1 : Int32) (x102_2 : Int32), K102 x102_1 x102_2 = some (r, Sr) → GoM G l 7 (TmR G (some (.int r)) 97 Sr 0 0) mX6_test 102 [(0, .ref a0), (1, .int x102_1), (2, .int x102_2), (3, .int l24_3)] [] S8 := by
          intro x102_1 x102_2 hf
          rw [eK102] at hf
          refine Go.inc 3 105 (1 : Int32) [(3, .int (l24_3 + (1 : Int32))), (0, .ref a0), (1, .int x102_1), (2, .int x102_2)] rfl dX6_test_102 rfl ci_1 (by decide) rfl ?_
          refine Go.goto 24 dX6_test_105 rfl ?_
          exact Go.sub [1, 2, 3, 0] [(0, .ref a0), (1, .int x102_1), (2, .int x102_2), (3, .int (l24_3 + (1 : Int32)))] rfl (ih x102_1 x102_2 (l24_3 + (1 : Int32)) hf)
        clear eK102
        have L38 : ∀ (fu : Nat) (l38_1 : Int32) (l38_2 : Int32) (l38_4 : Int32), F_X6_test_L38 n S8 k15 l24_3 k26 K102 fu l38_1 l38_2 l38_4 = some (r, Sr) → GoM G l 7 (TmR G (some (.int r)) 97 Sr 0 0) mX6_test 38 [(0, .ref a0), (1, .int l38_1), (2, .int l38_2), (3, .int l24_3), (4, .int l38_4)] [] S8 := by
          intro fu
          induction fu with
          | zero => intro l38_1 l38_2 l38_4 hf; rw [F_X6_test_L38] at hf; cases hf
          | succ fu ih =>
            intro l38_1 l38_2 l38_4 hf
            rw [F_X6_test_L38] at hf
            refine Go.iload 4 40 rfl dX6_test_38 rfl ?_
            refine Go.aload_n 0 41 rfl dX6_test_40 rfl ?_
            refine Go.getR 44 rfl dX6_test_41 fl_X6_45 rfl (isT_lt ha0) (isT_sh ha0) qk26 ?_
            refine Go.getI 47 rfl dX6_test_44 fl_X6_115 rfl (isT_lt hk26) (isT_sh hk26) ?_
            refine Go.icmp_ge 102 50 rfl dX6_test_47 rfl (fun hc => ?_) (fun hc => ?_)
            · replace hf := f_if hf hc
              exact Go.sub [0, 1, 2, 3] [(0, .ref a0), (1, .int l38_1), (2, .int l38_2), (3, .int l24_3)] rfl (J102 l38_1 l38_2 hf)
            · replace hf := f_el hf hc
              refine Go.aload_n 0 51 rfl dX6_test_50 rfl ?_
              refine Go.getR 54 rfl dX6_test_51 fl_X6_31 rfl (isT_lt ha0) (isT_sh ha0) qk15 ?_
              refine Go.iload_n 3 55 rfl dX6_test_54 rfl ?_
              refine Go.iload 4 57 rfl dX6_test_55 rfl ?_
              obtain ⟨r57, er57, hf⟩ := f_bnd hf
              refine Go.cV 60 [.int l24_3, .int l38_4] [] (C_X2_countWith G l n S8 k15 l24_3 l38_4 r57 hk15 er57) rfl dX6_test_57 cv_X6_213 hk15 (by decide) (by decide) rfl (Nat.le_of_ble_eq_true rfl) ?_
              refine Go.istore 62 [(5, .int r57), (0, .ref a0), (1, .int l38_1), (2, .int l38_2), (3, .int l24_3), (4, .int l38_4)] rfl dX6_test_60 (by decide) rfl ?_
              refine Go.iload 0 64 rfl dX6_test_62 rfl ?_
              refine Go.aload_n 1 65 rfl dX6_test_64 rfl ?_
              refine Go.getR 68 rfl dX6_test_65 fl_X6_31 rfl (isT_lt ha0) (isT_sh ha0) qk15 ?_
              refine Go.getI 71 rfl dX6_test_68 fl_X6_210 rfl (isT_lt hk15) (isT_sh hk15) ?_
              refine Go.iload 0 73 rfl dX6_test_71 rfl ?_
              refine Go.isub 74 rfl dX6_test_73 ?_
              refine Go.mmax 77 rfl dX6_test_74 (am_mem 636 (by decide +kernel) rfl) (am_mem 237 (by decide +kernel) rfl) (am_mem 59 (by decide +kernel) rfl) (am_mem 238 (by decide +kernel) rfl) (Nat.le_of_ble_eq_true rfl) ?_
              obtain ⟨v77, ev77, hf⟩ := f_nm hf
              refine Go.topi v77 ev77 ?_
              refine Go.istore 79 [(6, .int v77), (5, .int r57), (0, .ref a0), (1, .int l38_1), (2, .int l38_2), (3, .int l24_3), (4, .int l38_4)] rfl dX6_test_77 (by decide) rfl ?_
              refine Go.iload 0 81 rfl dX6_test_79 rfl ?_
              refine Go.iload_n 4 82 rfl dX6_test_81 rfl ?_
              obtain ⟨K96, eK96, hf⟩ := f_jn hf
              have J96 : ∀ (j96_1 : Int32) (j96_2 : Int32), K96 j96_1 j96_2 = some (r, Sr) → GoM G l 7 (TmR G (some (.int r)) 97 Sr 0 0) mX6_test 96 [(0, .ref a0), (1, .int j96_1), (2, .int j96_2), (3, .int l24_3), (4, .int l38_4)] [] S8 := by
                intro j96_1 j96_2 hf
                rw [eK96] at hf
                refine Go.inc 4 99 (1 : Int32) [(4, .int (l38_4 + (1 : Int32))), (0, .ref a0), (1, .int j96_1), (2, .int j96_2), (3, .int l24_3)] rfl dX6_test_96 rfl ci_1 (by decide) rfl ?_
                refine Go.goto 38 dX6_test_99 rfl ?_
                exact Go.sub [1, 2, 3, 4, 0] [(0, .ref a0), (1, .int j96_1), (2, .int j96_2), (3, .int l24_3), (4, .int (l38_4 + (1 : Int32)))] rfl (ih j96_1 j96_2 (l38_4 + (1 : Int32)) hf)
              clear eK96
              refine Go.icmp_ge 96 85 rfl dX6_test_82 rfl (fun hc => ?_) (fun hc => ?_)
              · replace hf := f_if hf hc
                exact Go.sub [2, 3, 4, 5, 6] [(0, .ref a0), (1, .int l38_1), (2, .int l38_2), (3, .int l24_3), (4, .int l38_4)] rfl (J96 l38_1 l38_2 hf)
              · replace hf := f_el hf hc
                refine Go.iload 0 87 rfl dX6_test_85 rfl ?_
                refine Go.istore_n 88 [(2, .int v77), (6, .int v77), (5, .int r57), (0, .ref a0), (1, .int l38_1), (3, .int l24_3), (4, .int l38_4)] rfl dX6_test_87 (by decide) rfl ?_
                refine Go.bipush (10 : Int32) 90 rfl dX6_test_88 cb_10 ?_
                refine Go.iload_n 5 91 rfl dX6_test_90 rfl ?_
                refine Go.imul 92 rfl dX6_test_91 ?_
                refine Go.iload 6 94 rfl dX6_test_92 rfl ?_
                refine Go.iadd 95 rfl dX6_test_94 ?_
                obtain ⟨v95, ev95, hf⟩ := f_nm hf
                refine Go.topi v95 ev95 ?_
                refine Go.istore_n 96 [(1, .int v95), (2, .int v77), (6, .int v77), (5, .int r57), (0, .ref a0), (3, .int l24_3), (4, .int l38_4)] rfl dX6_test_95 (by decide) rfl ?_
                exact Go.sub [4, 0, 1, 5, 6] [(0, .ref a0), (1, .int v95), (2, .int v77), (3, .int l24_3), (4, .int l38_4)] rfl (J96 v95 v77 hf)
        exact Go.sub [1, 2, 3, 4, 0] [(0, .ref a0), (1, .int l24_1), (2, .int l24_2), (3, .int l24_3), (4, .int (0 : Int32))] rfl (L38 n l24_1 l24_2 (0 : Int32) hf)
  exact Go.sub [3, 2, 1, 0] [(0, .ref a0), (1, .int (-9 : Int32)), (2, .int v21), (3, .int (0 : Int32))] rfl (L24 n (-9 : Int32) v21 (0 : Int32) hf)
theorem dX6_greatestShared_0 : decode cX6_greatestShared 0 = .ok (.lload_n 0, 1) := by decide +kernel
theorem dX6_greatestShared_1 : decode cX6_greatestShared 1 = .ok (.lstore 4, 2) := by decide +kernel
theorem dX6_greatestShared_3 : decode cX6_greatestShared 3 = .ok (.lload_n 2, 1) := by decide +kernel
theorem dX6_greatestShared_4 : decode cX6_greatestShared 4 = .ok (.lstore 6, 2) := by decide +kernel
theorem dX6_greatestShared_6 : decode cX6_greatestShared 6 = .ok (.iconst 0, 1) := by decide +kernel
theorem dX6_greatestShared_7 : decode cX6_greatestShared 7 = .ok (.istore 8, 2) := by decide +kernel
theorem dX6_greatestShared_9 : decode cX6_greatestShared 9 = .ok (.iload 8, 2) := by decide +kernel
theorem dX6_greatestShared_11 : decode cX6_greatestShared 11 = .ok (.bipush 64, 2) := by decide +kernel
theorem dX6_greatestShared_13 : decode cX6_greatestShared 13 = .ok (.if_icmp .ge 31, 3) := by decide +kernel
theorem dX6_greatestShared_16 : decode cX6_greatestShared 16 = .ok (.lload 6, 2) := by decide +kernel
theorem dX6_greatestShared_18 : decode cX6_greatestShared 18 = .ok (.lconst 0, 1) := by decide +kernel
theorem dX6_greatestShared_19 : decode cX6_greatestShared 19 = .ok (.lcmp, 1) := by decide +kernel
theorem dX6_greatestShared_20 : decode cX6_greatestShared 20 = .ok (.ifCond .eq 24, 3) := by decide +kernel
theorem dX6_greatestShared_23 : decode cX6_greatestShared 23 = .ok (.lload 4, 2) := by decide +kernel
theorem dX6_greatestShared_25 : decode cX6_greatestShared 25 = .ok (.lload 6, 2) := by decide +kernel
theorem dX6_greatestShared_27 : decode cX6_greatestShared 27 = .ok (.lrem, 1) := by decide +kernel
theorem dX6_greatestShared_28 : decode cX6_greatestShared 28 = .ok (.lstore 9, 2) := by decide +kernel
theorem dX6_greatestShared_30 : decode cX6_greatestShared 30 = .ok (.lload 6, 2) := by decide +kernel
theorem dX6_greatestShared_32 : decode cX6_greatestShared 32 = .ok (.lstore 4, 2) := by decide +kernel
theorem dX6_greatestShared_34 : decode cX6_greatestShared 34 = .ok (.lload 9, 2) := by decide +kernel
theorem dX6_greatestShared_36 : decode cX6_greatestShared 36 = .ok (.lstore 6, 2) := by decide +kernel
theorem dX6_greatestShared_38 : decode cX6_greatestShared 38 = .ok (.iinc 8 1, 3) := by decide +kernel
theorem dX6_greatestShared_41 : decode cX6_greatestShared 41 = .ok (.goto (-32), 3) := by decide +kernel
theorem dX6_greatestShared_44 : decode cX6_greatestShared 44 = .ok (.lload 4, 2) := by decide +kernel
theorem dX6_greatestShared_46 : decode cX6_greatestShared 46 = .ok (.lreturn, 1) := by decide +kernel
def F_X6_greatestShared_L9 (K44 : Int64 → Option Int64) : Nat → Int64 → Int64 → Int32 → Option Int64
  | 0, _, _, _ => none
  | fu + 1, l9_4, l9_6, l9_8 =>
    if (64 : Int32) ≤ l9_8 then (K44 l9_4) else
    if (lg_cmp l9_6 (0 : Int64)) = 0 then (K44 l9_4) else
    grd (!decide (l9_6 = 0)) <|
    nm (l9_4 - l9_4 / l9_6 * l9_6) fun v28 =>
    F_X6_greatestShared_L9 K44 fu l9_6 v28 (l9_8 + (1 : Int32))
def F_X6_greatestShared (n : Nat) (S : aSt) (a0 : Int64) (a2 : Int64) : Option Int64 :=
jn (fun (x44_4 : Int64) => (some x44_4 : Option Int64)) fun K44 =>
F_X6_greatestShared_L9 K44 n a0 a2 (0 : Int32)
set_option maxHeartbeats 4000000 in
set_option maxRecDepth 100000 in
theorem C_X6_greatestShared (G : aG) (l : Launch) (n : Nat) (S : aSt) (a0 : Int64) (a2 : Int64) (r : Int64)  (hf : F_X6_greatestShared n S a0 a2 = some r) : Ctr G l yX6_greatestShared mX6_greatestShared (rmM 1) 97 97 S [.long a0, .long a2] (some (.long r)) S := by
  refine Ctr.of (by decide) rfl rfl (Nat.le_of_ble_eq_true rfl) [(0, .long a0), (2, .long a2)] rfl ?_
  unfold F_X6_greatestShared at hf
  refine Go.lload_n 0 1 rfl dX6_greatestShared_0 rfl ?_
  refine Go.lstore 3 [(4, .long a0), (0, .long a0), (2, .long a2)] rfl dX6_greatestShared_1 (by decide) rfl ?_
  refine Go.lload_n 2 4 rfl dX6_greatestShared_3 rfl ?_
  refine Go.lstore 6 [(6, .long a2), (4, .long a0), (0, .long a0), (2, .long a2)] rfl dX6_greatestShared_4 (by decide) rfl ?_
  refine Go.iconst (0 : Int32) 7 rfl dX6_greatestShared_6 ci_0 ?_
  refine Go.istore 9 [(8, .int (0 : Int32)), (6, .long a2), (4, .long a0), (0, .long a0), (2, .long a2)] rfl dX6_greatestShared_7 (by decide) rfl ?_
  obtain ⟨K44, eK44, hf⟩ := f_jn hf
  have J44 : ∀ (x44_4 : Int64), K44 x44_4 = some r → GoM G l 1 (TmR G (some (.long r)) 97 S 0 0) mX6_greatestShared 44 [(4, .long x44_4)] [] S := by
    intro x44_4 hf
    rw [eK44] at hf
    refine Go.lload 0 46 rfl dX6_greatestShared_44 rfl ?_
    exact Go.lr rfl dX6_greatestShared_46 hf
  clear eK44
  have L9 : ∀ (fu : Nat) (l9_4 : Int64) (l9_6 : Int64) (l9_8 : Int32), F_X6_greatestShared_L9 K44 fu l9_4 l9_6 l9_8 = some r → GoM G l 1 (TmR G (some (.long r)) 97 S 0 0) mX6_greatestShared 9 [(4, .long l9_4), (6, .long l9_6), (8, .int l9_8)] [] S := by
    intro fu
    induction fu with
    | zero => intro l9_4 l9_6 l9_8 hf; rw [F_X6_greatestShared_L9] at hf; cases hf
    | succ fu ih =>
      intro l9_4 l9_6 l9_8 hf
      rw [F_X6_greatestShared_L9] at hf
      refine Go.iload 2 11 rfl dX6_greatestShared_9 rfl ?_
      refine Go.bipush (64 : Int32) 13 rfl dX6_greatestShared_11 cb_64 ?_
      refine Go.icmp_ge 44 16 rfl dX6_greatestShared_13 rfl (fun hc => ?_) (fun hc => ?_)
      · replace hf := f_if hf hc
        exact Go.sub [0] [(4, .long l9_4)] rfl (J44 l9_4 hf)
      · replace hf := f_el hf hc
        refine Go.lload 1 18 rfl dX6_greatestShared_16 rfl ?_
        refine Go.lconst (0 : Int64) 19 rfl dX6_greatestShared_18 cl_0 ?_
        refine Go.lcmp 20 rfl dX6_greatestShared_19 ?_
        refine Go.if_eq 44 23 rfl dX6_greatestShared_20 rfl (fun hc => ?_) (fun hc => ?_)
        · replace hf := f_if hf hc
          exact Go.sub [0] [(4, .long l9_4)] rfl (J44 l9_4 hf)
        · replace hf := f_el hf hc
          refine Go.lload 0 25 rfl dX6_greatestShared_23 rfl ?_
          refine Go.lload 1 27 rfl dX6_greatestShared_25 rfl ?_
          obtain ⟨g27, hf⟩ := f_grd hf
          refine Go.lrem 28 rfl dX6_greatestShared_27 (by simpa using g27) ?_
          obtain ⟨v28, ev28, hf⟩ := f_nm hf
          refine Go.topl v28 ev28 ?_
          refine Go.lstore 30 [(9, .long v28), (4, .long l9_4), (6, .long l9_6), (8, .int l9_8)] rfl dX6_greatestShared_28 (by decide) rfl ?_
          refine Go.lload 2 32 rfl dX6_greatestShared_30 rfl ?_
          refine Go.lstore 34 [(4, .long l9_6), (9, .long v28), (6, .long l9_6), (8, .int l9_8)] rfl dX6_greatestShared_32 (by decide) rfl ?_
          refine Go.lload 1 36 rfl dX6_greatestShared_34 rfl ?_
          refine Go.lstore 38 [(6, .long v28), (4, .long l9_6), (9, .long v28), (8, .int l9_8)] rfl dX6_greatestShared_36 (by decide) rfl ?_
          refine Go.inc 3 41 (1 : Int32) [(8, .int (l9_8 + (1 : Int32))), (6, .long v28), (4, .long l9_6), (9, .long v28)] rfl dX6_greatestShared_38 rfl ci_1 (by decide) rfl ?_
          refine Go.goto 9 dX6_greatestShared_41 rfl ?_
          exact Go.sub [2, 1, 0] [(4, .long l9_6), (6, .long v28), (8, .int (l9_8 + (1 : Int32)))] rfl (ih l9_6 v28 (l9_8 + (1 : Int32)) hf)
  exact Go.sub [2, 1, 0] [(4, .long a0), (6, .long a2), (8, .int (0 : Int32))] rfl (L9 n a0 a2 (0 : Int32) hf)
theorem dX6_tellChances_0 : decode cX6_tellChances 0 = .ok (.lload_n 1, 1) := by decide +kernel
theorem dX6_tellChances_1 : decode cX6_tellChances 1 = .ok (.lload_n 3, 1) := by decide +kernel
theorem dX6_tellChances_2 : decode cX6_tellChances 2 = .ok (.invokestatic 308, 3) := by decide +kernel
theorem dX6_tellChances_5 : decode cX6_tellChances 5 = .ok (.lstore 5, 2) := by decide +kernel
theorem dX6_tellChances_7 : decode cX6_tellChances 7 = .ok (.lload 5, 2) := by decide +kernel
theorem dX6_tellChances_9 : decode cX6_tellChances 9 = .ok (.lconst 0, 1) := by decide +kernel
theorem dX6_tellChances_10 : decode cX6_tellChances 10 = .ok (.lcmp, 1) := by decide +kernel
theorem dX6_tellChances_11 : decode cX6_tellChances 11 = .ok (.ifCond .le 19, 3) := by decide +kernel
theorem dX6_tellChances_14 : decode cX6_tellChances 14 = .ok (.aload_n 0, 1) := by decide +kernel
theorem dX6_tellChances_15 : decode cX6_tellChances 15 = .ok (.lload_n 1, 1) := by decide +kernel
theorem dX6_tellChances_16 : decode cX6_tellChances 16 = .ok (.lload 5, 2) := by decide +kernel
theorem dX6_tellChances_18 : decode cX6_tellChances 18 = .ok (.ldiv, 1) := by decide +kernel
theorem dX6_tellChances_19 : decode cX6_tellChances 19 = .ok (.putfield 56, 3) := by decide +kernel
theorem dX6_tellChances_22 : decode cX6_tellChances 22 = .ok (.aload_n 0, 1) := by decide +kernel
theorem dX6_tellChances_23 : decode cX6_tellChances 23 = .ok (.lload_n 3, 1) := by decide +kernel
theorem dX6_tellChances_24 : decode cX6_tellChances 24 = .ok (.lload 5, 2) := by decide +kernel
theorem dX6_tellChances_26 : decode cX6_tellChances 26 = .ok (.ldiv, 1) := by decide +kernel
theorem dX6_tellChances_27 : decode cX6_tellChances 27 = .ok (.putfield 60, 3) := by decide +kernel
theorem dX6_tellChances_30 : decode cX6_tellChances 30 = .ok (.return_, 1) := by decide +kernel
def F_X6_tellChances (n : Nat) (S : aSt) (a0 : Nat) (a1 : Int64) (a3 : Int64) : Option aSt :=
(F_X6_greatestShared n S a1 a3).bind fun r2 =>
if (lg_cmp r2 (0 : Int64)) ≤ 0 then (some S) else
grd (!decide (r2 = 0)) <|
nm (stL S a0 9 (a1 / r2)) fun S19 =>
grd (!decide (r2 = 0)) <|
nm (stL S19 a0 10 (a3 / r2)) fun S27 =>
some S27
set_option maxHeartbeats 4000000 in
set_option maxRecDepth 100000 in
theorem C_X6_tellChances (G : aG) (l : Launch) (n : Nat) (S : aSt) (a0 : Nat) (a1 : Int64) (a3 : Int64) (Sr : aSt) (ha0 : isT a0 5 = true) (hf : F_X6_tellChances n S a0 a1 a3 = some Sr) : Ctr G l yX6_tellChances mX6_tellChances (rmM 2) 97 97 S [.ref a0, .long a1, .long a3] none Sr := by
  refine Ctr.of (by decide) rfl rfl (Nat.le_of_ble_eq_true rfl) [(0, .ref a0), (1, .long a1), (3, .long a3)] rfl ?_
  unfold F_X6_tellChances at hf
  refine Go.lload_n 1 1 rfl dX6_tellChances_0 rfl ?_
  refine Go.lload_n 2 2 rfl dX6_tellChances_1 rfl ?_
  obtain ⟨r2, er2, hf⟩ := f_bnd hf
  refine Go.cS 5 [.long a1, .long a3] [] (C_X6_greatestShared G l n S a1 a3 r2  er2) rfl dX6_tellChances_2 cx_X6_308 (by decide) (by decide) rfl (Nat.le_of_ble_eq_true rfl) ?_
  refine Go.lstore 7 [(5, .long r2), (0, .ref a0), (1, .long a1), (3, .long a3)] rfl dX6_tellChances_5 (by decide) rfl ?_
  refine Go.lload 0 9 rfl dX6_tellChances_7 rfl ?_
  refine Go.lconst (0 : Int64) 10 rfl dX6_tellChances_9 cl_0 ?_
  refine Go.lcmp 11 rfl dX6_tellChances_10 ?_
  refine Go.if_le 30 14 rfl dX6_tellChances_11 rfl (fun hc => ?_) (fun hc => ?_)
  · replace hf := f_if hf hc
    exact Go.vr rfl dX6_tellChances_30 hf
  · replace hf := f_el hf hc
    refine Go.aload_n 1 15 rfl dX6_tellChances_14 rfl ?_
    refine Go.lload_n 2 16 rfl dX6_tellChances_15 rfl ?_
    refine Go.lload 0 18 rfl dX6_tellChances_16 rfl ?_
    obtain ⟨g18, hf⟩ := f_grd hf
    refine Go.ldiv 19 rfl dX6_tellChances_18 (by simpa using g18) ?_
    obtain ⟨S19, eS19, hf⟩ := f_nm hf
    refine Go.putL 22 rfl dX6_tellChances_19 fp_X6_56 rfl (isT_lt ha0) (isT_sh ha0) (fun h => by cases h) (Go.stt S19 eS19 ?_)
    refine Go.aload_n 1 23 rfl dX6_tellChances_22 rfl ?_
    refine Go.lload_n 3 24 rfl dX6_tellChances_23 rfl ?_
    refine Go.lload 0 26 rfl dX6_tellChances_24 rfl ?_
    obtain ⟨g26, hf⟩ := f_grd hf
    refine Go.ldiv 27 rfl dX6_tellChances_26 (by simpa using g26) ?_
    obtain ⟨S27, eS27, hf⟩ := f_nm hf
    refine Go.putL 30 rfl dX6_tellChances_27 fp_X6_60 rfl (isT_lt ha0) (isT_sh ha0) (fun h => by cases h) (Go.stt S27 eS27 ?_)
    exact Go.vr rfl dX6_tellChances_30 hf
theorem dX6_odds_0 : decode cX6_odds 0 = .ok (.aload_n 0, 1) := by decide +kernel
theorem dX6_odds_1 : decode cX6_odds 1 = .ok (.getfield 45, 3) := by decide +kernel
theorem dX6_odds_4 : decode cX6_odds 4 = .ok (.iload_n 1, 1) := by decide +kernel
theorem dX6_odds_5 : decode cX6_odds 5 = .ok (.invokevirtual 125, 3) := by decide +kernel
theorem dX6_odds_8 : decode cX6_odds 8 = .ok (.ifCond .eq 14, 3) := by decide +kernel
theorem dX6_odds_11 : decode cX6_odds 11 = .ok (.aload_n 0, 1) := by decide +kernel
theorem dX6_odds_12 : decode cX6_odds 12 = .ok (.getfield 45, 3) := by decide +kernel
theorem dX6_odds_15 : decode cX6_odds 15 = .ok (.iload_n 2, 1) := by decide +kernel
theorem dX6_odds_16 : decode cX6_odds 16 = .ok (.invokevirtual 118, 3) := by decide +kernel
theorem dX6_odds_19 : decode cX6_odds 19 = .ok (.ifCond .ne 5, 3) := by decide +kernel
theorem dX6_odds_22 : decode cX6_odds 22 = .ok (.iconst (-1), 1) := by decide +kernel
theorem dX6_odds_23 : decode cX6_odds 23 = .ok (.ireturn, 1) := by decide +kernel
theorem dX6_odds_24 : decode cX6_odds 24 = .ok (.aload_n 0, 1) := by decide +kernel
theorem dX6_odds_25 : decode cX6_odds 25 = .ok (.getfield 31, 3) := by decide +kernel
theorem dX6_odds_28 : decode cX6_odds 28 = .ok (.aload_n 0, 1) := by decide +kernel
theorem dX6_odds_29 : decode cX6_odds 29 = .ok (.getfield 45, 3) := by decide +kernel
theorem dX6_odds_32 : decode cX6_odds 32 = .ok (.invokevirtual 189, 3) := by decide +kernel
theorem dX6_odds_35 : decode cX6_odds 35 = .ok (.aload_n 0, 1) := by decide +kernel
theorem dX6_odds_36 : decode cX6_odds 36 = .ok (.aload_n 0, 1) := by decide +kernel
theorem dX6_odds_37 : decode cX6_odds 37 = .ok (.getfield 31, 3) := by decide +kernel
theorem dX6_odds_40 : decode cX6_odds 40 = .ok (.iload_n 1, 1) := by decide +kernel
theorem dX6_odds_41 : decode cX6_odds 41 = .ok (.iload_n 2, 1) := by decide +kernel
theorem dX6_odds_42 : decode cX6_odds 42 = .ok (.invokevirtual 213, 3) := by decide +kernel
theorem dX6_odds_45 : decode cX6_odds 45 = .ok (.i2l, 1) := by decide +kernel
theorem dX6_odds_46 : decode cX6_odds 46 = .ok (.aload_n 0, 1) := by decide +kernel
theorem dX6_odds_47 : decode cX6_odds 47 = .ok (.getfield 31, 3) := by decide +kernel
theorem dX6_odds_50 : decode cX6_odds 50 = .ok (.getfield 210, 3) := by decide +kernel
theorem dX6_odds_53 : decode cX6_odds 53 = .ok (.i2l, 1) := by decide +kernel
theorem dX6_odds_54 : decode cX6_odds 54 = .ok (.invokevirtual 221, 3) := by decide +kernel
theorem dX6_odds_57 : decode cX6_odds 57 = .ok (.iconst 1, 1) := by decide +kernel
theorem dX6_odds_58 : decode cX6_odds 58 = .ok (.ireturn, 1) := by decide +kernel
def F_X6_odds (n : Nat) (S : aSt) (a0 : Nat) (a1 : Int32) (a2 : Int32) : Option (Int32 × aSt) :=
rfd (S.2.2 a0 6) 0 fun k1 =>
(F_X1_isQuestion n S k1 a1).bind fun r5 =>
if r5 = 0 then (some ((-1 : Int32), S)) else
(F_X1_isCard n S k1 a2).bind fun r16 =>
if r16 = 0 then (some ((-1 : Int32), S)) else
rfd (S.2.2 a0 4) 1 fun k25 =>
(F_X2_countIn n S k25 k1).bind fun S32 =>
rfd (S32.2.2 a0 4) 1 fun k37 =>
(F_X2_countWith n S32 k37 a1 a2).bind fun r42 =>
(F_X6_tellChances n S32 a0 r42.toInt64 (S32.1 k37 7).toInt64).bind fun S54 =>
some ((1 : Int32), S54)
set_option maxHeartbeats 4000000 in
set_option maxRecDepth 100000 in
theorem C_X6_odds (G : aG) (l : Launch) (n : Nat) (S : aSt) (a0 : Nat) (a1 : Int32) (a2 : Int32) (r : Int32) (Sr : aSt) (ha0 : isT a0 5 = true) (hf : F_X6_odds n S a0 a1 a2 = some (r, Sr)) : Ctr G l yX6_odds mX6_odds (rmM 7) 97 97 S [.ref a0, .int a1, .int a2] (some (.int r)) Sr := by
  refine Ctr.of (by decide) rfl rfl (Nat.le_of_ble_eq_true rfl) [(0, .ref a0), (1, .int a1), (2, .int a2)] rfl ?_
  unfold F_X6_odds at hf
  refine Go.aload_n 0 1 rfl dX6_odds_0 rfl ?_
  obtain ⟨k1, qk1, hk1, hf⟩ := f_rfd hf
  refine Go.getR 4 rfl dX6_odds_1 fl_X6_45 rfl (isT_lt ha0) (isT_sh ha0) qk1 ?_
  refine Go.iload_n 1 5 rfl dX6_odds_4 rfl ?_
  obtain ⟨r5, er5, hf⟩ := f_bnd hf
  refine Go.cV 8 [.int a1] [] (C_X1_isQuestion G l n S k1 a1 r5 hk1 er5) rfl dX6_odds_5 cv_X6_125 hk1 (by decide) (by decide) rfl (Nat.le_of_ble_eq_true rfl) ?_
  refine Go.if_eq 22 11 rfl dX6_odds_8 rfl (fun hc => ?_) (fun hc => ?_)
  · replace hf := f_if hf hc
    refine Go.iconst (-1 : Int32) 23 rfl dX6_odds_22 ci_m1 ?_
    exact Go.irS rfl dX6_odds_23 hf
  · replace hf := f_el hf hc
    refine Go.aload_n 0 12 rfl dX6_odds_11 rfl ?_
    refine Go.getR 15 rfl dX6_odds_12 fl_X6_45 rfl (isT_lt ha0) (isT_sh ha0) qk1 ?_
    refine Go.iload_n 2 16 rfl dX6_odds_15 rfl ?_
    obtain ⟨r16, er16, hf⟩ := f_bnd hf
    refine Go.cV 19 [.int a2] [] (C_X1_isCard G l n S k1 a2 r16 hk1 er16) rfl dX6_odds_16 cv_X6_118 hk1 (by decide) (by decide) rfl (Nat.le_of_ble_eq_true rfl) ?_
    refine Go.if_ne 24 22 rfl dX6_odds_19 rfl (fun hc => ?_) (fun hc => ?_)
    · replace hf := f_el hf hc
      refine Go.aload_n 0 25 rfl dX6_odds_24 rfl ?_
      obtain ⟨k25, qk25, hk25, hf⟩ := f_rfd hf
      refine Go.getR 28 rfl dX6_odds_25 fl_X6_31 rfl (isT_lt ha0) (isT_sh ha0) qk25 ?_
      refine Go.aload_n 0 29 rfl dX6_odds_28 rfl ?_
      refine Go.getR 32 rfl dX6_odds_29 fl_X6_45 rfl (isT_lt ha0) (isT_sh ha0) qk1 ?_
      obtain ⟨S32, eS32, hf⟩ := f_bnd hf
      refine Go.cVv 35 [.ref k1] [] (C_X2_countIn G l n S k25 k1 S32 hk25 hk1 eS32) rfl dX6_odds_32 cv_X6_189 hk25 (by decide) (by decide) rfl (Nat.le_of_ble_eq_true rfl) ?_
      refine Go.aload_n 0 36 rfl dX6_odds_35 rfl ?_
      refine Go.aload_n 0 37 rfl dX6_odds_36 rfl ?_
      obtain ⟨k37, qk37, hk37, hf⟩ := f_rfd hf
      refine Go.getR 40 rfl dX6_odds_37 fl_X6_31 rfl (isT_lt ha0) (isT_sh ha0) qk37 ?_
      refine Go.iload_n 1 41 rfl dX6_odds_40 rfl ?_
      refine Go.iload_n 2 42 rfl dX6_odds_41 rfl ?_
      obtain ⟨r42, er42, hf⟩ := f_bnd hf
      refine Go.cV 45 [.int a1, .int a2] [.ref a0] (C_X2_countWith G l n S32 k37 a1 a2 r42 hk37 er42) rfl dX6_odds_42 cv_X6_213 hk37 (by decide) (by decide) rfl (Nat.le_of_ble_eq_true rfl) ?_
      refine Go.i2l 46 rfl dX6_odds_45 ?_
      refine Go.aload_n 0 47 rfl dX6_odds_46 rfl ?_
      refine Go.getR 50 rfl dX6_odds_47 fl_X6_31 rfl (isT_lt ha0) (isT_sh ha0) qk37 ?_
      refine Go.getI 53 rfl dX6_odds_50 fl_X6_210 rfl (isT_lt hk37) (isT_sh hk37) ?_
      refine Go.i2l 54 rfl dX6_odds_53 ?_
      obtain ⟨S54, eS54, hf⟩ := f_bnd hf
      refine Go.cVv 57 [.long r42.toInt64, .long (S32.1 k37 7).toInt64] [] (C_X6_tellChances G l n S32 a0 r42.toInt64 (S32.1 k37 7).toInt64 S54 ha0 eS54) rfl dX6_odds_54 cv_X6_221 ha0 (by decide) (by decide) rfl (Nat.le_of_ble_eq_true rfl) ?_
      refine Go.iconst (1 : Int32) 58 rfl dX6_odds_57 ci_1 ?_
      exact Go.irS rfl dX6_odds_58 hf
    · replace hf := f_if hf hc
      refine Go.iconst (-1 : Int32) 23 rfl dX6_odds_22 ci_m1 ?_
      exact Go.irS rfl dX6_odds_23 hf
theorem dX6_worlds_0 : decode cX6_worlds 0 = .ok (.iconst 1, 1) := by decide +kernel
theorem dX6_worlds_1 : decode cX6_worlds 1 = .ok (.istore_n 1, 1) := by decide +kernel
theorem dX6_worlds_2 : decode cX6_worlds 2 = .ok (.iconst 0, 1) := by decide +kernel
theorem dX6_worlds_3 : decode cX6_worlds 3 = .ok (.istore_n 2, 1) := by decide +kernel
theorem dX6_worlds_4 : decode cX6_worlds 4 = .ok (.iload_n 2, 1) := by decide +kernel
theorem dX6_worlds_5 : decode cX6_worlds 5 = .ok (.aload_n 0, 1) := by decide +kernel
theorem dX6_worlds_6 : decode cX6_worlds 6 = .ok (.getfield 45, 3) := by decide +kernel
theorem dX6_worlds_9 : decode cX6_worlds 9 = .ok (.getfield 204, 3) := by decide +kernel
theorem dX6_worlds_12 : decode cX6_worlds 12 = .ok (.if_icmp .ge 20, 3) := by decide +kernel
theorem dX6_worlds_15 : decode cX6_worlds 15 = .ok (.iload_n 1, 1) := by decide +kernel
theorem dX6_worlds_16 : decode cX6_worlds 16 = .ok (.aload_n 0, 1) := by decide +kernel
theorem dX6_worlds_17 : decode cX6_worlds 17 = .ok (.getfield 45, 3) := by decide +kernel
theorem dX6_worlds_20 : decode cX6_worlds 20 = .ok (.iload_n 2, 1) := by decide +kernel
theorem dX6_worlds_21 : decode cX6_worlds 21 = .ok (.invokevirtual 225, 3) := by decide +kernel
theorem dX6_worlds_24 : decode cX6_worlds 24 = .ok (.imul, 1) := by decide +kernel
theorem dX6_worlds_25 : decode cX6_worlds 25 = .ok (.istore_n 1, 1) := by decide +kernel
theorem dX6_worlds_26 : decode cX6_worlds 26 = .ok (.iinc 2 1, 3) := by decide +kernel
theorem dX6_worlds_29 : decode cX6_worlds 29 = .ok (.goto (-25), 3) := by decide +kernel
theorem dX6_worlds_32 : decode cX6_worlds 32 = .ok (.iload_n 1, 1) := by decide +kernel
theorem dX6_worlds_33 : decode cX6_worlds 33 = .ok (.ireturn, 1) := by decide +kernel
def F_X6_worlds_L4 (n : Nat) (S : aSt) (a0 : Nat) (K32 : Int32 → Option Int32) : Nat → Int32 → Int32 → Option Int32
  | 0, _, _ => none
  | fu + 1, l4_1, l4_2 =>
    rfd (S.2.2 a0 6) 0 fun k6 =>
    if (S.1 k6 8) ≤ l4_2 then (K32 l4_1) else
    (F_X1_waysOfTruth n S k6 l4_2).bind fun r21 =>
    nm (l4_1 * r21) fun v25 =>
    F_X6_worlds_L4 n S a0 K32 fu v25 (l4_2 + (1 : Int32))
def F_X6_worlds (n : Nat) (S : aSt) (a0 : Nat) : Option Int32 :=
jn (fun (x32_1 : Int32) => (some x32_1 : Option Int32)) fun K32 =>
F_X6_worlds_L4 n S a0 K32 n (1 : Int32) (0 : Int32)
set_option maxHeartbeats 4000000 in
set_option maxRecDepth 100000 in
theorem C_X6_worlds (G : aG) (l : Launch) (n : Nat) (S : aSt) (a0 : Nat) (r : Int32) (ha0 : isT a0 5 = true) (hf : F_X6_worlds n S a0 = some r) : Ctr G l yX6_worlds mX6_worlds (rmM 5) 97 97 S [.ref a0] (some (.int r)) S := by
  refine Ctr.of (by decide) rfl rfl (Nat.le_of_ble_eq_true rfl) [(0, .ref a0)] rfl ?_
  unfold F_X6_worlds at hf
  refine Go.iconst (1 : Int32) 1 rfl dX6_worlds_0 ci_1 ?_
  refine Go.istore_n 2 [(1, .int (1 : Int32)), (0, .ref a0)] rfl dX6_worlds_1 (by decide) rfl ?_
  refine Go.iconst (0 : Int32) 3 rfl dX6_worlds_2 ci_0 ?_
  refine Go.istore_n 4 [(2, .int (0 : Int32)), (1, .int (1 : Int32)), (0, .ref a0)] rfl dX6_worlds_3 (by decide) rfl ?_
  obtain ⟨K32, eK32, hf⟩ := f_jn hf
  have J32 : ∀ (x32_1 : Int32), K32 x32_1 = some r → GoM G l 5 (TmR G (some (.int r)) 97 S 0 0) mX6_worlds 32 [(1, .int x32_1)] [] S := by
    intro x32_1 hf
    rw [eK32] at hf
    refine Go.iload_n 0 33 rfl dX6_worlds_32 rfl ?_
    exact Go.ir rfl dX6_worlds_33 hf
  clear eK32
  have L4 : ∀ (fu : Nat) (l4_1 : Int32) (l4_2 : Int32), F_X6_worlds_L4 n S a0 K32 fu l4_1 l4_2 = some r → GoM G l 5 (TmR G (some (.int r)) 97 S 0 0) mX6_worlds 4 [(0, .ref a0), (1, .int l4_1), (2, .int l4_2)] [] S := by
    intro fu
    induction fu with
    | zero => intro l4_1 l4_2 hf; rw [F_X6_worlds_L4] at hf; cases hf
    | succ fu ih =>
      intro l4_1 l4_2 hf
      rw [F_X6_worlds_L4] at hf
      refine Go.iload_n 2 5 rfl dX6_worlds_4 rfl ?_
      refine Go.aload_n 0 6 rfl dX6_worlds_5 rfl ?_
      obtain ⟨k6, qk6, hk6, hf⟩ := f_rfd hf
      refine Go.getR 9 rfl dX6_worlds_6 fl_X6_45 rfl (isT_lt ha0) (isT_sh ha0) qk6 ?_
      refine Go.getI 12 rfl dX6_worlds_9 fl_X6_204 rfl (isT_lt hk6) (isT_sh hk6) ?_
      refine Go.icmp_ge 32 15 rfl dX6_worlds_12 rfl (fun hc => ?_) (fun hc => ?_)
      · replace hf := f_if hf hc
        exact Go.sub [1] [(1, .int l4_1)] rfl (J32 l4_1 hf)
      · replace hf := f_el hf hc
        refine Go.iload_n 1 16 rfl dX6_worlds_15 rfl ?_
        refine Go.aload_n 0 17 rfl dX6_worlds_16 rfl ?_
        refine Go.getR 20 rfl dX6_worlds_17 fl_X6_45 rfl (isT_lt ha0) (isT_sh ha0) qk6 ?_
        refine Go.iload_n 2 21 rfl dX6_worlds_20 rfl ?_
        obtain ⟨r21, er21, hf⟩ := f_bnd hf
        refine Go.cV 24 [.int l4_2] [.int l4_1] (C_X1_waysOfTruth G l n S k6 l4_2 r21 hk6 er21) rfl dX6_worlds_21 cv_X6_225 hk6 (by decide) (by decide) rfl (Nat.le_of_ble_eq_true rfl) ?_
        refine Go.imul 25 rfl dX6_worlds_24 ?_
        obtain ⟨v25, ev25, hf⟩ := f_nm hf
        refine Go.topi v25 ev25 ?_
        refine Go.istore_n 26 [(1, .int v25), (0, .ref a0), (2, .int l4_2)] rfl dX6_worlds_25 (by decide) rfl ?_
        refine Go.inc 2 29 (1 : Int32) [(2, .int (l4_2 + (1 : Int32))), (1, .int v25), (0, .ref a0)] rfl dX6_worlds_26 rfl ci_1 (by decide) rfl ?_
        refine Go.goto 4 dX6_worlds_29 rfl ?_
        exact Go.sub [2, 1, 0] [(0, .ref a0), (1, .int v25), (2, .int (l4_2 + (1 : Int32)))] rfl (ih v25 (l4_2 + (1 : Int32)) hf)
  exact Go.sub [2, 1, 0] [(0, .ref a0), (1, .int (1 : Int32)), (2, .int (0 : Int32))] rfl (L4 n (1 : Int32) (0 : Int32) hf)
