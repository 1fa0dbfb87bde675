/-! written by program: X7_undo X7_standing X7_right X7_keep X7_on X7_mayMatch X7_counts X7_layMatchings X7_laid X7_match X7_wished X7_fullest -/
theorem dX7_undo_0 : decode cX7_undo 0 = .ok (.iload_n 1, 1) := by decide +kernel
theorem dX7_undo_1 : decode cX7_undo 1 = .ok (.i2l, 1) := by decide +kernel
theorem dX7_undo_2 : decode cX7_undo 2 = .ok (.lconst 0, 1) := by decide +kernel
theorem dX7_undo_3 : decode cX7_undo 3 = .ok (.aload_n 0, 1) := by decide +kernel
theorem dX7_undo_4 : decode cX7_undo 4 = .ok (.getfield 22, 3) := by decide +kernel
theorem dX7_undo_7 : decode cX7_undo 7 = .ok (.iconst 2, 1) := by decide +kernel
theorem dX7_undo_8 : decode cX7_undo 8 = .ok (.iaload, 1) := by decide +kernel
theorem dX7_undo_9 : decode cX7_undo 9 = .ok (.i2l, 1) := by decide +kernel
theorem dX7_undo_10 : decode cX7_undo 10 = .ok (.invokestatic 66, 3) := by decide +kernel
theorem dX7_undo_13 : decode cX7_undo 13 = .ok (.ifCond .ne 5, 3) := by decide +kernel
theorem dX7_undo_16 : decode cX7_undo 16 = .ok (.iconst (-1), 1) := by decide +kernel
theorem dX7_undo_17 : decode cX7_undo 17 = .ok (.ireturn, 1) := by decide +kernel
theorem dX7_undo_18 : decode cX7_undo 18 = .ok (.aload_n 0, 1) := by decide +kernel
theorem dX7_undo_19 : decode cX7_undo 19 = .ok (.getfield 22, 3) := by decide +kernel
theorem dX7_undo_22 : decode cX7_undo 22 = .ok (.iconst 2, 1) := by decide +kernel
theorem dX7_undo_23 : decode cX7_undo 23 = .ok (.iaload, 1) := by decide +kernel
theorem dX7_undo_24 : decode cX7_undo 24 = .ok (.iload_n 1, 1) := by decide +kernel
theorem dX7_undo_25 : decode cX7_undo 25 = .ok (.isub, 1) := by decide +kernel
theorem dX7_undo_26 : decode cX7_undo 26 = .ok (.istore_n 2, 1) := by decide +kernel
theorem dX7_undo_27 : decode cX7_undo 27 = .ok (.iconst 0, 1) := by decide +kernel
theorem dX7_undo_28 : decode cX7_undo 28 = .ok (.istore_n 3, 1) := by decide +kernel
theorem dX7_undo_29 : decode cX7_undo 29 = .ok (.iload_n 3, 1) := by decide +kernel
theorem dX7_undo_30 : decode cX7_undo 30 = .ok (.bipush 7, 2) := by decide +kernel
theorem dX7_undo_32 : decode cX7_undo 32 = .ok (.if_icmp .ge 36, 3) := by decide +kernel
theorem dX7_undo_35 : decode cX7_undo 35 = .ok (.iload_n 2, 1) := by decide +kernel
theorem dX7_undo_36 : decode cX7_undo 36 = .ok (.ifCond .le 32, 3) := by decide +kernel
theorem dX7_undo_39 : decode cX7_undo 39 = .ok (.aload_n 0, 1) := by decide +kernel
theorem dX7_undo_40 : decode cX7_undo 40 = .ok (.getfield 22, 3) := by decide +kernel
theorem dX7_undo_43 : decode cX7_undo 43 = .ok (.bipush 66, 2) := by decide +kernel
theorem dX7_undo_45 : decode cX7_undo 45 = .ok (.iload_n 3, 1) := by decide +kernel
theorem dX7_undo_46 : decode cX7_undo 46 = .ok (.iadd, 1) := by decide +kernel
theorem dX7_undo_47 : decode cX7_undo 47 = .ok (.aload_n 0, 1) := by decide +kernel
theorem dX7_undo_48 : decode cX7_undo 48 = .ok (.getfield 22, 3) := by decide +kernel
theorem dX7_undo_51 : decode cX7_undo 51 = .ok (.bipush 113, 2) := by decide +kernel
theorem dX7_undo_53 : decode cX7_undo 53 = .ok (.bipush 7, 2) := by decide +kernel
theorem dX7_undo_55 : decode cX7_undo 55 = .ok (.iload_n 1, 1) := by decide +kernel
theorem dX7_undo_56 : decode cX7_undo 56 = .ok (.imul, 1) := by decide +kernel
theorem dX7_undo_57 : decode cX7_undo 57 = .ok (.iadd, 1) := by decide +kernel
theorem dX7_undo_58 : decode cX7_undo 58 = .ok (.iload_n 3, 1) := by decide +kernel
theorem dX7_undo_59 : decode cX7_undo 59 = .ok (.iadd, 1) := by decide +kernel
theorem dX7_undo_60 : decode cX7_undo 60 = .ok (.iaload, 1) := by decide +kernel
theorem dX7_undo_61 : decode cX7_undo 61 = .ok (.iastore, 1) := by decide +kernel
theorem dX7_undo_62 : decode cX7_undo 62 = .ok (.iinc 3 1, 3) := by decide +kernel
theorem dX7_undo_65 : decode cX7_undo 65 = .ok (.goto (-36), 3) := by decide +kernel
theorem dX7_undo_68 : decode cX7_undo 68 = .ok (.aload_n 0, 1) := by decide +kernel
theorem dX7_undo_69 : decode cX7_undo 69 = .ok (.getfield 22, 3) := by decide +kernel
theorem dX7_undo_72 : decode cX7_undo 72 = .ok (.iconst 2, 1) := by decide +kernel
theorem dX7_undo_73 : decode cX7_undo 73 = .ok (.iload_n 1, 1) := by decide +kernel
theorem dX7_undo_74 : decode cX7_undo 74 = .ok (.iastore, 1) := by decide +kernel
theorem dX7_undo_75 : decode cX7_undo 75 = .ok (.iload_n 2, 1) := by decide +kernel
theorem dX7_undo_76 : decode cX7_undo 76 = .ok (.ireturn, 1) := by decide +kernel
def F_X7_undo_L29 (a0 : Nat) (a1 : Int32) (v26 : Int32) (K68 : aSt → Option (Int32 × aSt)) : Nat → Int32 → aSt → Option (Int32 × aSt)
  | 0, _, _ => none
  | fu + 1, l29_3, l29S =>
    if (7 : Int32) ≤ l29_3 then (K68 l29S) else
    if v26 ≤ 0 then (K68 l29S) else
    rfd (l29S.2.2 a0 4) 7 fun k40 =>
    grd (inb (((113 : Int32) + ((7 : Int32) * a1)) + l29_3) (SH k40).2) <|
    grd (inb ((66 : Int32) + l29_3) (SH k40).2) <|
    nm (stI l29S k40 ((66 : Int32) + l29_3).toNatClampNeg (l29S.1 k40 (((113 : Int32) + ((7 : Int32) * a1)) + l29_3).toNatClampNeg)) fun S61 =>
    F_X7_undo_L29 a0 a1 v26 K68 fu (l29_3 + (1 : Int32)) S61
def F_X7_undo (n : Nat) (S : aSt) (a0 : Nat) (a1 : Int32) : Option (Int32 × aSt) :=
rfd (S.2.2 a0 4) 7 fun k4 =>
grd (inb (2 : Int32) (SH k4).2) <|
(F_X7_in n S a1.toInt64 (0 : Int64) (S.1 k4 (2 : Int32).toNatClampNeg).toInt64).bind fun r10 =>
if r10 = 0 then (some ((-1 : Int32), S)) else
grd (inb (2 : Int32) (SH k4).2) <|
nm ((S.1 k4 (2 : Int32).toNatClampNeg) - a1) fun v26 =>
jn (fun (x68S : aSt) => (rfd (x68S.2.2 a0 4) 7 fun k69 =>
grd (inb (2 : Int32) (SH k69).2) <|
nm (stI x68S k69 (2 : Int32).toNatClampNeg a1) fun S74 =>
some (v26, S74) : Option (Int32 × aSt))) fun K68 =>
F_X7_undo_L29 a0 a1 v26 K68 n (0 : Int32) S
set_option maxHeartbeats 4000000 in
set_option maxRecDepth 100000 in
theorem C_X7_undo (G : aG) (l : Launch) (n : Nat) (S : aSt) (a0 : Nat) (a1 : Int32) (r : Int32) (Sr : aSt) (ha0 : isT a0 6 = true) (hf : F_X7_undo n S a0 a1 = some (r, Sr)) : Ctr G l yX7_undo mX7_undo (rmM 2) 97 97 S [.ref a0, .int a1] (some (.int r)) Sr := by
  refine Ctr.of (by decide) rfl rfl (Nat.le_of_ble_eq_true rfl) [(0, .ref a0), (1, .int a1)] rfl ?_
  unfold F_X7_undo at hf
  refine Go.iload_n 1 1 rfl dX7_undo_0 rfl ?_
  refine Go.i2l 2 rfl dX7_undo_1 ?_
  refine Go.lconst (0 : Int64) 3 rfl dX7_undo_2 cl_0 ?_
  refine Go.aload_n 0 4 rfl dX7_undo_3 rfl ?_
  obtain ⟨k4, qk4, hk4, hf⟩ := f_rfd hf
  refine Go.getR 7 rfl dX7_undo_4 fl_X7_22 rfl (isT_lt ha0) (isT_sh ha0) qk4 ?_
  refine Go.iconst (2 : Int32) 8 rfl dX7_undo_7 ci_2 ?_
  obtain ⟨g8, hf⟩ := f_grd hf
  refine Go.iald 9 rfl dX7_undo_8 (isT_lt hk4) (isT_sh hk4) g8 ?_
  refine Go.i2l 10 rfl dX7_undo_9 ?_
  obtain ⟨r10, er10, hf⟩ := f_bnd hf
  refine Go.cS 13 [.long a1.toInt64, .long (0 : Int64), .long (S.1 k4 (2 : Int32).toNatClampNeg).toInt64] [] (C_X7_in G l n S a1.toInt64 (0 : Int64) (S.1 k4 (2 : Int32).toNatClampNeg).toInt64 r10  er10) rfl dX7_undo_10 cx_X7_66 (by decide) (by decide) rfl (Nat.le_of_ble_eq_true rfl) ?_
  refine Go.if_ne 18 16 rfl dX7_undo_13 rfl (fun hc => ?_) (fun hc => ?_)
  · replace hf := f_el hf hc
    refine Go.aload_n 0 19 rfl dX7_undo_18 rfl ?_
    refine Go.getR 22 rfl dX7_undo_19 fl_X7_22 rfl (isT_lt ha0) (isT_sh ha0) qk4 ?_
    refine Go.iconst (2 : Int32) 23 rfl dX7_undo_22 ci_2 ?_
    obtain ⟨g23, hf⟩ := f_grd hf
    refine Go.iald 24 rfl dX7_undo_23 (isT_lt hk4) (isT_sh hk4) g23 ?_
    refine Go.iload_n 1 25 rfl dX7_undo_24 rfl ?_
    refine Go.isub 26 rfl dX7_undo_25 ?_
    obtain ⟨v26, ev26, hf⟩ := f_nm hf
    refine Go.topi v26 ev26 ?_
    refine Go.istore_n 27 [(2, .int v26), (0, .ref a0), (1, .int a1)] rfl dX7_undo_26 (by decide) rfl ?_
    refine Go.iconst (0 : Int32) 28 rfl dX7_undo_27 ci_0 ?_
    refine Go.istore_n 29 [(3, .int (0 : Int32)), (2, .int v26), (0, .ref a0), (1, .int a1)] rfl dX7_undo_28 (by decide) rfl ?_
    obtain ⟨K68, eK68, hf⟩ := f_jn hf
    have J68 : ∀ (x68S : aSt), K68 x68S = some (r, Sr) → GoM G l 2 (TmR G (some (.int r)) 97 Sr 0 0) mX7_undo 68 [(0, .ref a0), (1, .int a1), (2, .int v26)] [] x68S := by
      intro x68S hf
      rw [eK68] at hf
      refine Go.aload_n 0 69 rfl dX7_undo_68 rfl ?_
      obtain ⟨k69, qk69, hk69, hf⟩ := f_rfd hf
      refine Go.getR 72 rfl dX7_undo_69 fl_X7_22 rfl (isT_lt ha0) (isT_sh ha0) qk69 ?_
      refine Go.iconst (2 : Int32) 73 rfl dX7_undo_72 ci_2 ?_
      refine Go.iload_n 1 74 rfl dX7_undo_73 rfl ?_
      obtain ⟨g74, hf⟩ := f_grd hf
      obtain ⟨S74, eS74, hf⟩ := f_nm hf
      refine Go.iast 75 rfl dX7_undo_74 (isT_lt hk69) (isT_sh hk69) g74 (Go.stt S74 eS74 ?_)
      refine Go.iload_n 2 76 rfl dX7_undo_75 rfl ?_
      exact Go.irS rfl dX7_undo_76 hf
    clear eK68
    have L29 : ∀ (fu : Nat) (l29_3 : Int32) (l29S : aSt), F_X7_undo_L29 a0 a1 v26 K68 fu l29_3 l29S = some (r, Sr) → GoM G l 2 (TmR G (some (.int r)) 97 Sr 0 0) mX7_undo 29 [(0, .ref a0), (1, .int a1), (2, .int v26), (3, .int l29_3)] [] l29S := by
      intro fu
      induction fu with
      | zero => intro l29_3 l29S hf; rw [F_X7_undo_L29] at hf; cases hf
      | succ fu ih =>
        intro l29_3 l29S hf
        rw [F_X7_undo_L29] at hf
        refine Go.iload_n 3 30 rfl dX7_undo_29 rfl ?_
        refine Go.bipush (7 : Int32) 32 rfl dX7_undo_30 cb_7 ?_
        refine Go.icmp_ge 68 35 rfl dX7_undo_32 rfl (fun hc => ?_) (fun hc => ?_)
        · replace hf := f_if hf hc
          exact Go.sub [0, 1, 2] [(0, .ref a0), (1, .int a1), (2, .int v26)] rfl (J68 l29S hf)
        · replace hf := f_el hf hc
          refine Go.iload_n 2 36 rfl dX7_undo_35 rfl ?_
          refine Go.if_le 68 39 rfl dX7_undo_36 rfl (fun hc => ?_) (fun hc => ?_)
          · replace hf := f_if hf hc
            exact Go.sub [0, 1, 2] [(0, .ref a0), (1, .int a1), (2, .int v26)] rfl (J68 l29S hf)
          · replace hf := f_el hf hc
            refine Go.aload_n 0 40 rfl dX7_undo_39 rfl ?_
            obtain ⟨k40, qk40, hk40, hf⟩ := f_rfd hf
            refine Go.getR 43 rfl dX7_undo_40 fl_X7_22 rfl (isT_lt ha0) (isT_sh ha0) qk40 ?_
            refine Go.bipush (66 : Int32) 45 rfl dX7_undo_43 cb_66 ?_
            refine Go.iload_n 3 46 rfl dX7_undo_45 rfl ?_
            refine Go.iadd 47 rfl dX7_undo_46 ?_
            refine Go.aload_n 0 48 rfl dX7_undo_47 rfl ?_
            refine Go.getR 51 rfl dX7_undo_48 fl_X7_22 rfl (isT_lt ha0) (isT_sh ha0) qk40 ?_
            refine Go.bipush (113 : Int32) 53 rfl dX7_undo_51 cb_113 ?_
            refine Go.bipush (7 : Int32) 55 rfl dX7_undo_53 cb_7 ?_
            refine Go.iload_n 1 56 rfl dX7_undo_55 rfl ?_
            refine Go.imul 57 rfl dX7_undo_56 ?_
            refine Go.iadd 58 rfl dX7_undo_57 ?_
            refine Go.iload_n 3 59 rfl dX7_undo_58 rfl ?_
            refine Go.iadd 60 rfl dX7_undo_59 ?_
            obtain ⟨g60, hf⟩ := f_grd hf
            refine Go.iald 61 rfl dX7_undo_60 (isT_lt hk40) (isT_sh hk40) g60 ?_
            obtain ⟨g61, hf⟩ := f_grd hf
            obtain ⟨S61, eS61, hf⟩ := f_nm hf
            refine Go.iast 62 rfl dX7_undo_61 (isT_lt hk40) (isT_sh hk40) g61 (Go.stt S61 eS61 ?_)
            refine Go.inc 3 65 (1 : Int32) [(3, .int (l29_3 + (1 : Int32))), (0, .ref a0), (1, .int a1), (2, .int v26)] rfl dX7_undo_62 rfl ci_1 (by decide) rfl ?_
            refine Go.goto 29 dX7_undo_65 rfl ?_
            exact Go.sub [1, 2, 3, 0] [(0, .ref a0), (1, .int a1), (2, .int v26), (3, .int (l29_3 + (1 : Int32)))] rfl (ih (l29_3 + (1 : Int32)) S61 hf)
    exact Go.sub [2, 3, 1, 0] [(0, .ref a0), (1, .int a1), (2, .int v26), (3, .int (0 : Int32))] rfl (L29 n (0 : Int32) S hf)
  · replace hf := f_if hf hc
    refine Go.iconst (-1 : Int32) 17 rfl dX7_undo_16 ci_m1 ?_
    exact Go.irS rfl dX7_undo_17 hf
theorem dX7_standing_0 : decode cX7_standing 0 = .ok (.iconst 0, 1) := by decide +kernel
theorem dX7_standing_1 : decode cX7_standing 1 = .ok (.istore_n 2, 1) := by decide +kernel
theorem dX7_standing_2 : decode cX7_standing 2 = .ok (.iconst 0, 1) := by decide +kernel
theorem dX7_standing_3 : decode cX7_standing 3 = .ok (.istore_n 3, 1) := by decide +kernel
theorem dX7_standing_4 : decode cX7_standing 4 = .ok (.iload_n 3, 1) := by decide +kernel
theorem dX7_standing_5 : decode cX7_standing 5 = .ok (.aload_n 0, 1) := by decide +kernel
theorem dX7_standing_6 : decode cX7_standing 6 = .ok (.getfield 22, 3) := by decide +kernel
theorem dX7_standing_9 : decode cX7_standing 9 = .ok (.iconst 1, 1) := by decide +kernel
theorem dX7_standing_10 : decode cX7_standing 10 = .ok (.iaload, 1) := by decide +kernel
theorem dX7_standing_11 : decode cX7_standing 11 = .ok (.if_icmp .ge 34, 3) := by decide +kernel
theorem dX7_standing_14 : decode cX7_standing 14 = .ok (.iload_n 2, 1) := by decide +kernel
theorem dX7_standing_15 : decode cX7_standing 15 = .ok (.aload_n 0, 1) := by decide +kernel
theorem dX7_standing_16 : decode cX7_standing 16 = .ok (.iload_n 3, 1) := by decide +kernel
theorem dX7_standing_17 : decode cX7_standing 17 = .ok (.invokevirtual 147, 3) := by decide +kernel
theorem dX7_standing_20 : decode cX7_standing 20 = .ok (.ifCond .ne 16, 3) := by decide +kernel
theorem dX7_standing_23 : decode cX7_standing 23 = .ok (.aload_n 0, 1) := by decide +kernel
theorem dX7_standing_24 : decode cX7_standing 24 = .ok (.iload_n 3, 1) := by decide +kernel
theorem dX7_standing_25 : decode cX7_standing 25 = .ok (.invokevirtual 157, 3) := by decide +kernel
theorem dX7_standing_28 : decode cX7_standing 28 = .ok (.iload_n 1, 1) := by decide +kernel
theorem dX7_standing_29 : decode cX7_standing 29 = .ok (.if_icmp .ne 7, 3) := by decide +kernel
theorem dX7_standing_32 : decode cX7_standing 32 = .ok (.iconst 1, 1) := by decide +kernel
theorem dX7_standing_33 : decode cX7_standing 33 = .ok (.goto 4, 3) := by decide +kernel
theorem dX7_standing_36 : decode cX7_standing 36 = .ok (.iconst 0, 1) := by decide +kernel
theorem dX7_standing_37 : decode cX7_standing 37 = .ok (.iadd, 1) := by decide +kernel
theorem dX7_standing_38 : decode cX7_standing 38 = .ok (.istore_n 2, 1) := by decide +kernel
theorem dX7_standing_39 : decode cX7_standing 39 = .ok (.iinc 3 1, 3) := by decide +kernel
theorem dX7_standing_42 : decode cX7_standing 42 = .ok (.goto (-38), 3) := by decide +kernel
theorem dX7_standing_45 : decode cX7_standing 45 = .ok (.iload_n 2, 1) := by decide +kernel
theorem dX7_standing_46 : decode cX7_standing 46 = .ok (.ireturn, 1) := by decide +kernel
def F_X7_standing_L4 (n : Nat) (S : aSt) (a0 : Nat) (a1 : Int32) (K45 : Int32 → Option Int32) : Nat → Int32 → Int32 → Option Int32
  | 0, _, _ => none
  | fu + 1, l4_2, l4_3 =>
    rfd (S.2.2 a0 4) 7 fun k6 =>
    grd (inb (1 : Int32) (SH k6).2) <|
    if (S.1 k6 (1 : Int32).toNatClampNeg) ≤ l4_3 then (K45 l4_2) else
    (F_X7_isFree n S a0 l4_3).bind fun r17 =>
    jn (fun (j37s1 : Int32) => (nm (l4_2 + j37s1) fun v38 =>
    F_X7_standing_L4 n S a0 a1 K45 fu v38 (l4_3 + (1 : Int32)) : Option Int32)) fun K37 =>
    jn ((K37 (0 : Int32) : Option Int32)) fun K36 =>
    if r17 = 0 then ((F_X7_stands n S a0 l4_3).bind fun r25 =>
    if r25 = a1 then (K37 (1 : Int32)) else
    K36) else
    K36
def F_X7_standing (n : Nat) (S : aSt) (a0 : Nat) (a1 : Int32) : Option Int32 :=
jn (fun (x45_2 : Int32) => (some x45_2 : Option Int32)) fun K45 =>
F_X7_standing_L4 n S a0 a1 K45 n (0 : Int32) (0 : Int32)
set_option maxHeartbeats 4000000 in
set_option maxRecDepth 100000 in
theorem C_X7_standing (G : aG) (l : Launch) (n : Nat) (S : aSt) (a0 : Nat) (a1 : Int32) (r : Int32) (ha0 : isT a0 6 = true) (hf : F_X7_standing n S a0 a1 = some r) : Ctr G l yX7_standing mX7_standing (rmM 3) 97 97 S [.ref a0, .int a1] (some (.int r)) S := by
  refine Ctr.of (by decide) rfl rfl (Nat.le_of_ble_eq_true rfl) [(0, .ref a0), (1, .int a1)] rfl ?_
  unfold F_X7_standing at hf
  refine Go.iconst (0 : Int32) 1 rfl dX7_standing_0 ci_0 ?_
  refine Go.istore_n 2 [(2, .int (0 : Int32)), (0, .ref a0), (1, .int a1)] rfl dX7_standing_1 (by decide) rfl ?_
  refine Go.iconst (0 : Int32) 3 rfl dX7_standing_2 ci_0 ?_
  refine Go.istore_n 4 [(3, .int (0 : Int32)), (2, .int (0 : Int32)), (0, .ref a0), (1, .int a1)] rfl dX7_standing_3 (by decide) rfl ?_
  obtain ⟨K45, eK45, hf⟩ := f_jn hf
  have J45 : ∀ (x45_2 : Int32), K45 x45_2 = some r → GoM G l 3 (TmR G (some (.int r)) 97 S 0 0) mX7_standing 45 [(2, .int x45_2)] [] S := by
    intro x45_2 hf
    rw [eK45] at hf
    refine Go.iload_n 0 46 rfl dX7_standing_45 rfl ?_
    exact Go.ir rfl dX7_standing_46 hf
  clear eK45
  have L4 : ∀ (fu : Nat) (l4_2 : Int32) (l4_3 : Int32), F_X7_standing_L4 n S a0 a1 K45 fu l4_2 l4_3 = some r → GoM G l 3 (TmR G (some (.int r)) 97 S 0 0) mX7_standing 4 [(0, .ref a0), (1, .int a1), (2, .int l4_2), (3, .int l4_3)] [] S := by
    intro fu
    induction fu with
    | zero => intro l4_2 l4_3 hf; rw [F_X7_standing_L4] at hf; cases hf
    | succ fu ih =>
      intro l4_2 l4_3 hf
      rw [F_X7_standing_L4] at hf
      refine Go.iload_n 3 5 rfl dX7_standing_4 rfl ?_
      refine Go.aload_n 0 6 rfl dX7_standing_5 rfl ?_
      obtain ⟨k6, qk6, hk6, hf⟩ := f_rfd hf
      refine Go.getR 9 rfl dX7_standing_6 fl_X7_22 rfl (isT_lt ha0) (isT_sh ha0) qk6 ?_
      refine Go.iconst (1 : Int32) 10 rfl dX7_standing_9 ci_1 ?_
      obtain ⟨g10, hf⟩ := f_grd hf
      refine Go.iald 11 rfl dX7_standing_10 (isT_lt hk6) (isT_sh hk6) g10 ?_
      refine Go.icmp_ge 45 14 rfl dX7_standing_11 rfl (fun hc => ?_) (fun hc => ?_)
      · replace hf := f_if hf hc
        exact Go.sub [2] [(2, .int l4_2)] rfl (J45 l4_2 hf)
      · replace hf := f_el hf hc
        refine Go.iload_n 2 15 rfl dX7_standing_14 rfl ?_
        refine Go.aload_n 0 16 rfl dX7_standing_15 rfl ?_
        refine Go.iload_n 3 17 rfl dX7_standing_16 rfl ?_
        obtain ⟨r17, er17, hf⟩ := f_bnd hf
        refine Go.cV 20 [.int l4_3] [.int l4_2] (C_X7_isFree G l n S a0 l4_3 r17 ha0 er17) rfl dX7_standing_17 cv_X7_147 ha0 (by decide) (by decide) rfl (Nat.le_of_ble_eq_true rfl) ?_
        obtain ⟨K37, eK37, hf⟩ := f_jn hf
        have J37 : ∀ (j37s1 : Int32), K37 j37s1 = some r → GoM G l 3 (TmR G (some (.int r)) 97 S 0 0) mX7_standing 37 [(0, .ref a0), (1, .int a1), (3, .int l4_3)] [.int j37s1, .int l4_2] S := by
          intro j37s1 hf
          rw [eK37] at hf
          refine Go.iadd 38 rfl dX7_standing_37 ?_
          obtain ⟨v38, ev38, hf⟩ := f_nm hf
          refine Go.topi v38 ev38 ?_
          refine Go.istore_n 39 [(2, .int v38), (0, .ref a0), (1, .int a1), (3, .int l4_3)] rfl dX7_standing_38 (by decide) rfl ?_
          refine Go.inc 3 42 (1 : Int32) [(3, .int (l4_3 + (1 : Int32))), (2, .int v38), (0, .ref a0), (1, .int a1)] rfl dX7_standing_39 rfl ci_1 (by decide) rfl ?_
          refine Go.goto 4 dX7_standing_42 rfl ?_
          exact Go.sub [2, 3, 1, 0] [(0, .ref a0), (1, .int a1), (2, .int v38), (3, .int (l4_3 + (1 : Int32)))] rfl (ih v38 (l4_3 + (1 : Int32)) hf)
        clear eK37
        obtain ⟨K36, eK36, hf⟩ := f_jn hf
        have J36 : K36 = some r → GoM G l 3 (TmR G (some (.int r)) 97 S 0 0) mX7_standing 36 [(0, .ref a0), (1, .int a1), (3, .int l4_3)] [.int l4_2] S := by
          intro hf
          rw [eK36] at hf
          refine Go.iconst (0 : Int32) 37 rfl dX7_standing_36 ci_0 ?_
          exact J37 (0 : Int32) hf
        clear eK36
        refine Go.if_ne 36 23 rfl dX7_standing_20 rfl (fun hc => ?_) (fun hc => ?_)
        · replace hf := f_el hf hc
          exact Go.sub [0, 1, 3] [(0, .ref a0), (1, .int a1), (3, .int l4_3)] rfl (J36 hf)
        · replace hf := f_if hf hc
          refine Go.aload_n 0 24 rfl dX7_standing_23 rfl ?_
          refine Go.iload_n 3 25 rfl dX7_standing_24 rfl ?_
          obtain ⟨r25, er25, hf⟩ := f_bnd hf
          refine Go.cV 28 [.int l4_3] [.int l4_2] (C_X7_stands G l n S a0 l4_3 r25 ha0 er25) rfl dX7_standing_25 cv_X7_157 ha0 (by decide) (by decide) rfl (Nat.le_of_ble_eq_true rfl) ?_
          refine Go.iload_n 1 29 rfl dX7_standing_28 rfl ?_
          refine Go.icmp_ne 36 32 rfl dX7_standing_29 rfl (fun hc => ?_) (fun hc => ?_)
          · replace hf := f_el hf hc
            exact Go.sub [0, 1, 3] [(0, .ref a0), (1, .int a1), (3, .int l4_3)] rfl (J36 hf)
          · replace hf := f_if hf hc
            refine Go.iconst (1 : Int32) 33 rfl dX7_standing_32 ci_1 ?_
            refine Go.goto 37 dX7_standing_33 rfl ?_
            exact Go.sub [0, 1, 3] [(0, .ref a0), (1, .int a1), (3, .int l4_3)] rfl (J37 (1 : Int32) hf)
  exact Go.sub [2, 3, 1, 0] [(0, .ref a0), (1, .int a1), (2, .int (0 : Int32)), (3, .int (0 : Int32))] rfl (L4 n (0 : Int32) (0 : Int32) hf)
theorem dX7_right_0 : decode cX7_right 0 = .ok (.aload_n 0, 1) := by decide +kernel
theorem dX7_right_1 : decode cX7_right 1 = .ok (.aload_n 0, 1) := by decide +kernel
theorem dX7_right_2 : decode cX7_right 2 = .ok (.iconst 0, 1) := by decide +kernel
theorem dX7_right_3 : decode cX7_right 3 = .ok (.invokevirtual 160, 3) := by decide +kernel
theorem dX7_right_6 : decode cX7_right 6 = .ok (.invokevirtual 80, 3) := by decide +kernel
theorem dX7_right_9 : decode cX7_right 9 = .ok (.istore_n 1, 1) := by decide +kernel
theorem dX7_right_10 : decode cX7_right 10 = .ok (.aload_n 0, 1) := by decide +kernel
theorem dX7_right_11 : decode cX7_right 11 = .ok (.iconst 1, 1) := by decide +kernel
theorem dX7_right_12 : decode cX7_right 12 = .ok (.invokevirtual 160, 3) := by decide +kernel
theorem dX7_right_15 : decode cX7_right 15 = .ok (.ireturn, 1) := by decide +kernel
def F_X7_right (n : Nat) (S : aSt) (a0 : Nat) : Option (Int32 × aSt) :=
(F_X7_standing n S a0 (0 : Int32)).bind fun r3 =>
bn2 (F_X7_tell n S a0 r3) fun r6 S6 =>
(F_X7_standing n S6 a0 (1 : Int32)).bind fun r12 =>
some (r12, S6)
set_option maxHeartbeats 4000000 in
set_option maxRecDepth 100000 in
theorem C_X7_right (G : aG) (l : Launch) (n : Nat) (S : aSt) (a0 : Nat) (r : Int32) (Sr : aSt) (ha0 : isT a0 6 = true) (hf : F_X7_right n S a0 = some (r, Sr)) : Ctr G l yX7_right mX7_right (rmM 4) 97 97 S [.ref a0] (some (.int r)) Sr := by
  refine Ctr.of (by decide) rfl rfl (Nat.le_of_ble_eq_true rfl) [(0, .ref a0)] rfl ?_
  unfold F_X7_right at hf
  refine Go.aload_n 0 1 rfl dX7_right_0 rfl ?_
  refine Go.aload_n 0 2 rfl dX7_right_1 rfl ?_
  refine Go.iconst (0 : Int32) 3 rfl dX7_right_2 ci_0 ?_
  obtain ⟨r3, er3, hf⟩ := f_bnd hf
  refine Go.cV 6 [.int (0 : Int32)] [.ref a0] (C_X7_standing G l n S a0 (0 : Int32) r3 ha0 er3) rfl dX7_right_3 cv_X7_160 ha0 (by decide) (by decide) rfl (Nat.le_of_ble_eq_true rfl) ?_
  obtain ⟨r6, S6, er6, hf⟩ := f_bn2 hf
  refine Go.cV 9 [.int r3] [] (C_X7_tell G l n S a0 r3 r6 S6 ha0 er6) rfl dX7_right_6 cv_X7_80 ha0 (by decide) (by decide) rfl (Nat.le_of_ble_eq_true rfl) ?_
  refine Go.istore_n 10 [(1, .int r6), (0, .ref a0)] rfl dX7_right_9 (by decide) rfl ?_
  refine Go.aload_n 1 11 rfl dX7_right_10 rfl ?_
  refine Go.iconst (1 : Int32) 12 rfl dX7_right_11 ci_1 ?_
  obtain ⟨r12, er12, hf⟩ := f_bnd hf
  refine Go.cV 15 [.int (1 : Int32)] [] (C_X7_standing G l n S6 a0 (1 : Int32) r12 ha0 er12) rfl dX7_right_12 cv_X7_160 ha0 (by decide) (by decide) rfl (Nat.le_of_ble_eq_true rfl) ?_
  exact Go.irS rfl dX7_right_15 hf
theorem dX7_keep_0 : decode cX7_keep 0 = .ok (.iload_n 1, 1) := by decide +kernel
theorem dX7_keep_1 : decode cX7_keep 1 = .ok (.i2l, 1) := by decide +kernel
theorem dX7_keep_2 : decode cX7_keep 2 = .ok (.lconst 0, 1) := by decide +kernel
theorem dX7_keep_3 : decode cX7_keep 3 = .ok (.ldc2_w 163, 3) := by decide +kernel
theorem dX7_keep_6 : decode cX7_keep 6 = .ok (.invokestatic 66, 3) := by decide +kernel
theorem dX7_keep_9 : decode cX7_keep 9 = .ok (.ifCond .ne 5, 3) := by decide +kernel
theorem dX7_keep_12 : decode cX7_keep 12 = .ok (.iconst (-1), 1) := by decide +kernel
theorem dX7_keep_13 : decode cX7_keep 13 = .ok (.ireturn, 1) := by decide +kernel
theorem dX7_keep_14 : decode cX7_keep 14 = .ok (.aload_n 0, 1) := by decide +kernel
theorem dX7_keep_15 : decode cX7_keep 15 = .ok (.getfield 22, 3) := by decide +kernel
theorem dX7_keep_18 : decode cX7_keep 18 = .ok (.iconst 0, 1) := by decide +kernel
theorem dX7_keep_19 : decode cX7_keep 19 = .ok (.iaload, 1) := by decide +kernel
theorem dX7_keep_20 : decode cX7_keep 20 = .ok (.ifCond .ne 6, 3) := by decide +kernel
theorem dX7_keep_23 : decode cX7_keep 23 = .ok (.bipush (-4), 2) := by decide +kernel
theorem dX7_keep_25 : decode cX7_keep 25 = .ok (.ireturn, 1) := by decide +kernel
theorem dX7_keep_26 : decode cX7_keep 26 = .ok (.aload_n 0, 1) := by decide +kernel
theorem dX7_keep_27 : decode cX7_keep 27 = .ok (.getfield 22, 3) := by decide +kernel
theorem dX7_keep_30 : decode cX7_keep 30 = .ok (.iconst 0, 1) := by decide +kernel
theorem dX7_keep_31 : decode cX7_keep 31 = .ok (.aload_n 0, 1) := by decide +kernel
theorem dX7_keep_32 : decode cX7_keep 32 = .ok (.getfield 25, 3) := by decide +kernel
theorem dX7_keep_35 : decode cX7_keep 35 = .ok (.sipush 393, 3) := by decide +kernel
theorem dX7_keep_38 : decode cX7_keep 38 = .ok (.iload_n 1, 1) := by decide +kernel
theorem dX7_keep_39 : decode cX7_keep 39 = .ok (.imul, 1) := by decide +kernel
theorem dX7_keep_40 : decode cX7_keep 40 = .ok (.invokestatic 112, 3) := by decide +kernel
theorem dX7_keep_43 : decode cX7_keep 43 = .ok (.aload_n 0, 1) := by decide +kernel
theorem dX7_keep_44 : decode cX7_keep 44 = .ok (.getfield 28, 3) := by decide +kernel
theorem dX7_keep_47 : decode cX7_keep 47 = .ok (.iload_n 1, 1) := by decide +kernel
theorem dX7_keep_48 : decode cX7_keep 48 = .ok (.iconst 1, 1) := by decide +kernel
theorem dX7_keep_49 : decode cX7_keep 49 = .ok (.bastore, 1) := by decide +kernel
theorem dX7_keep_50 : decode cX7_keep 50 = .ok (.aload_n 0, 1) := by decide +kernel
theorem dX7_keep_51 : decode cX7_keep 51 = .ok (.getfield 22, 3) := by decide +kernel
theorem dX7_keep_54 : decode cX7_keep 54 = .ok (.iconst 2, 1) := by decide +kernel
theorem dX7_keep_55 : decode cX7_keep 55 = .ok (.iaload, 1) := by decide +kernel
theorem dX7_keep_56 : decode cX7_keep 56 = .ok (.ireturn, 1) := by decide +kernel
def F_X7_keep (n : Nat) (S : aSt) (a0 : Nat) (a1 : Int32) : Option (Int32 × aSt) :=
(F_X7_in n S a1.toInt64 (0 : Int64) (2 : Int64)).bind fun r6 =>
if r6 = 0 then (some ((-1 : Int32), S)) else
rfd (S.2.2 a0 4) 7 fun k15 =>
grd (inb (0 : Int32) (SH k15).2) <|
if (S.1 k15 (0 : Int32).toNatClampNeg) = 0 then (some ((-4 : Int32), S)) else
rfd (S.2.2 a0 5) 7 fun k32 =>
(F_X7_copies n S k15 (0 : Int32) k32 ((393 : Int32) * a1)).bind fun S40 =>
rfd (S40.2.2 a0 6) 8 fun k44 =>
grd (inb a1 (SH k44).2) <|
nm (stI S40 k44 a1.toNatClampNeg (vp_nar .boolean (1 : Int32))) fun S49 =>
rfd (S49.2.2 a0 4) 7 fun k51 =>
grd (inb (2 : Int32) (SH k51).2) <|
some ((S49.1 k51 (2 : Int32).toNatClampNeg), S49)
set_option maxHeartbeats 4000000 in
set_option maxRecDepth 100000 in
theorem C_X7_keep (G : aG) (l : Launch) (n : Nat) (S : aSt) (a0 : Nat) (a1 : Int32) (r : Int32) (Sr : aSt) (ha0 : isT a0 6 = true) (hf : F_X7_keep n S a0 a1 = some (r, Sr)) : Ctr G l yX7_keep mX7_keep (rmM 2) 97 97 S [.ref a0, .int a1] (some (.int r)) Sr := by
  refine Ctr.of (by decide) rfl rfl (Nat.le_of_ble_eq_true rfl) [(0, .ref a0), (1, .int a1)] rfl ?_
  unfold F_X7_keep at hf
  refine Go.iload_n 1 1 rfl dX7_keep_0 rfl ?_
  refine Go.i2l 2 rfl dX7_keep_1 ?_
  refine Go.lconst (0 : Int64) 3 rfl dX7_keep_2 cl_0 ?_
  refine Go.ldc2 (2 : Int64) 6 rfl dX7_keep_3 (am_mem 1094 (by decide +kernel) rfl) ?_
  obtain ⟨r6, er6, hf⟩ := f_bnd hf
  refine Go.cS 9 [.long a1.toInt64, .long (0 : Int64), .long (2 : Int64)] [] (C_X7_in G l n S a1.toInt64 (0 : Int64) (2 : Int64) r6  er6) rfl dX7_keep_6 cx_X7_66 (by decide) (by decide) rfl (Nat.le_of_ble_eq_true rfl) ?_
  refine Go.if_ne 14 12 rfl dX7_keep_9 rfl (fun hc => ?_) (fun hc => ?_)
  · replace hf := f_el hf hc
    refine Go.aload_n 0 15 rfl dX7_keep_14 rfl ?_
    obtain ⟨k15, qk15, hk15, hf⟩ := f_rfd hf
    refine Go.getR 18 rfl dX7_keep_15 fl_X7_22 rfl (isT_lt ha0) (isT_sh ha0) qk15 ?_
    refine Go.iconst (0 : Int32) 19 rfl dX7_keep_18 ci_0 ?_
    obtain ⟨g19, hf⟩ := f_grd hf
    refine Go.iald 20 rfl dX7_keep_19 (isT_lt hk15) (isT_sh hk15) g19 ?_
    refine Go.if_ne 26 23 rfl dX7_keep_20 rfl (fun hc => ?_) (fun hc => ?_)
    · replace hf := f_el hf hc
      refine Go.aload_n 0 27 rfl dX7_keep_26 rfl ?_
      refine Go.getR 30 rfl dX7_keep_27 fl_X7_22 rfl (isT_lt ha0) (isT_sh ha0) qk15 ?_
      refine Go.iconst (0 : Int32) 31 rfl dX7_keep_30 ci_0 ?_
      refine Go.aload_n 0 32 rfl dX7_keep_31 rfl ?_
      obtain ⟨k32, qk32, hk32, hf⟩ := f_rfd hf
      refine Go.getR 35 rfl dX7_keep_32 fl_X7_25 rfl (isT_lt ha0) (isT_sh ha0) qk32 ?_
      refine Go.sipush (393 : Int32) 38 rfl dX7_keep_35 cs_393 ?_
      refine Go.iload_n 1 39 rfl dX7_keep_38 rfl ?_
      refine Go.imul 40 rfl dX7_keep_39 ?_
      obtain ⟨S40, eS40, hf⟩ := f_bnd hf
      refine Go.cSv 43 [.ref k15, .int (0 : Int32), .ref k32, .int ((393 : Int32) * a1)] [] (C_X7_copies G l n S k15 (0 : Int32) k32 ((393 : Int32) * a1) S40 hk15 hk32 eS40) rfl dX7_keep_40 cx_X7_112 (by decide) (by decide) rfl (Nat.le_of_ble_eq_true rfl) ?_
      refine Go.aload_n 0 44 rfl dX7_keep_43 rfl ?_
      obtain ⟨k44, qk44, hk44, hf⟩ := f_rfd hf
      refine Go.getR 47 rfl dX7_keep_44 fl_X7_28 rfl (isT_lt ha0) (isT_sh ha0) qk44 ?_
      refine Go.iload_n 1 48 rfl dX7_keep_47 rfl ?_
      refine Go.iconst (1 : Int32) 49 rfl dX7_keep_48 ci_1 ?_
      obtain ⟨g49, hf⟩ := f_grd hf
      obtain ⟨S49, eS49, hf⟩ := f_nm hf
      refine Go.zast 50 rfl dX7_keep_49 (isT_lt hk44) (isT_sh hk44) g49 (Go.stt S49 eS49 ?_)
      refine Go.aload_n 0 51 rfl dX7_keep_50 rfl ?_
      obtain ⟨k51, qk51, hk51, hf⟩ := f_rfd hf
      refine Go.getR 54 rfl dX7_keep_51 fl_X7_22 rfl (isT_lt ha0) (isT_sh ha0) qk51 ?_
      refine Go.iconst (2 : Int32) 55 rfl dX7_keep_54 ci_2 ?_
      obtain ⟨g55, hf⟩ := f_grd hf
      refine Go.iald 56 rfl dX7_keep_55 (isT_lt hk51) (isT_sh hk51) g55 ?_
      exact Go.irS rfl dX7_keep_56 hf
    · replace hf := f_if hf hc
      refine Go.bipush (-4 : Int32) 25 rfl dX7_keep_23 cb_m4 ?_
      exact Go.irS rfl dX7_keep_25 hf
  · replace hf := f_if hf hc
    refine Go.iconst (-1 : Int32) 13 rfl dX7_keep_12 ci_m1 ?_
    exact Go.irS rfl dX7_keep_13 hf
theorem dX7_on_0 : decode cX7_on 0 = .ok (.iload_n 1, 1) := by decide +kernel
theorem dX7_on_1 : decode cX7_on 1 = .ok (.i2l, 1) := by decide +kernel
theorem dX7_on_2 : decode cX7_on 2 = .ok (.lconst 0, 1) := by decide +kernel
theorem dX7_on_3 : decode cX7_on 3 = .ok (.ldc2_w 163, 3) := by decide +kernel
theorem dX7_on_6 : decode cX7_on 6 = .ok (.invokestatic 66, 3) := by decide +kernel
theorem dX7_on_9 : decode cX7_on 9 = .ok (.ifCond .ne 5, 3) := by decide +kernel
theorem dX7_on_12 : decode cX7_on 12 = .ok (.iconst (-1), 1) := by decide +kernel
theorem dX7_on_13 : decode cX7_on 13 = .ok (.ireturn, 1) := by decide +kernel
theorem dX7_on_14 : decode cX7_on 14 = .ok (.aload_n 0, 1) := by decide +kernel
theorem dX7_on_15 : decode cX7_on 15 = .ok (.getfield 28, 3) := by decide +kernel
theorem dX7_on_18 : decode cX7_on 18 = .ok (.iload_n 1, 1) := by decide +kernel
theorem dX7_on_19 : decode cX7_on 19 = .ok (.baload, 1) := by decide +kernel
theorem dX7_on_20 : decode cX7_on 20 = .ok (.ifCond .ne 9, 3) := by decide +kernel
theorem dX7_on_23 : decode cX7_on 23 = .ok (.aload_n 0, 1) := by decide +kernel
theorem dX7_on_24 : decode cX7_on 24 = .ok (.iconst 1, 1) := by decide +kernel
theorem dX7_on_25 : decode cX7_on 25 = .ok (.invokevirtual 76, 3) := by decide +kernel
theorem dX7_on_28 : decode cX7_on 28 = .ok (.ireturn, 1) := by decide +kernel
theorem dX7_on_29 : decode cX7_on 29 = .ok (.aload_n 0, 1) := by decide +kernel
theorem dX7_on_30 : decode cX7_on 30 = .ok (.getfield 25, 3) := by decide +kernel
theorem dX7_on_33 : decode cX7_on 33 = .ok (.sipush 393, 3) := by decide +kernel
theorem dX7_on_36 : decode cX7_on 36 = .ok (.iload_n 1, 1) := by decide +kernel
theorem dX7_on_37 : decode cX7_on 37 = .ok (.imul, 1) := by decide +kernel
theorem dX7_on_38 : decode cX7_on 38 = .ok (.aload_n 0, 1) := by decide +kernel
theorem dX7_on_39 : decode cX7_on 39 = .ok (.getfield 22, 3) := by decide +kernel
theorem dX7_on_42 : decode cX7_on 42 = .ok (.iconst 0, 1) := by decide +kernel
theorem dX7_on_43 : decode cX7_on 43 = .ok (.invokestatic 112, 3) := by decide +kernel
theorem dX7_on_46 : decode cX7_on 46 = .ok (.aload_n 0, 1) := by decide +kernel
theorem dX7_on_47 : decode cX7_on 47 = .ok (.getfield 22, 3) := by decide +kernel
theorem dX7_on_50 : decode cX7_on 50 = .ok (.iconst 2, 1) := by decide +kernel
theorem dX7_on_51 : decode cX7_on 51 = .ok (.iaload, 1) := by decide +kernel
theorem dX7_on_52 : decode cX7_on 52 = .ok (.ireturn, 1) := by decide +kernel
def F_X7_on (n : Nat) (S : aSt) (a0 : Nat) (a1 : Int32) : Option (Int32 × aSt) :=
(F_X7_in n S a1.toInt64 (0 : Int64) (2 : Int64)).bind fun r6 =>
if r6 = 0 then (some ((-1 : Int32), S)) else
rfd (S.2.2 a0 6) 8 fun k15 =>
grd (inb a1 (SH k15).2) <|
if (S.1 k15 a1.toNatClampNeg) = 0 then (bn2 (F_X7_found n S a0 (1 : Int32)) fun r25 S25 =>
some (r25, S25)) else
rfd (S.2.2 a0 5) 7 fun k30 =>
rfd (S.2.2 a0 4) 7 fun k39 =>
(F_X7_copies n S k30 ((393 : Int32) * a1) k39 (0 : Int32)).bind fun S43 =>
rfd (S43.2.2 a0 4) 7 fun k47 =>
grd (inb (2 : Int32) (SH k47).2) <|
some ((S43.1 k47 (2 : Int32).toNatClampNeg), S43)
set_option maxHeartbeats 4000000 in
set_option maxRecDepth 100000 in
theorem C_X7_on (G : aG) (l : Launch) (n : Nat) (S : aSt) (a0 : Nat) (a1 : Int32) (r : Int32) (Sr : aSt) (ha0 : isT a0 6 = true) (hf : F_X7_on n S a0 a1 = some (r, Sr)) : Ctr G l yX7_on mX7_on (rmM 2) 97 97 S [.ref a0, .int a1] (some (.int r)) Sr := by
  refine Ctr.of (by decide) rfl rfl (Nat.le_of_ble_eq_true rfl) [(0, .ref a0), (1, .int a1)] rfl ?_
  unfold F_X7_on at hf
  refine Go.iload_n 1 1 rfl dX7_on_0 rfl ?_
  refine Go.i2l 2 rfl dX7_on_1 ?_
  refine Go.lconst (0 : Int64) 3 rfl dX7_on_2 cl_0 ?_
  refine Go.ldc2 (2 : Int64) 6 rfl dX7_on_3 (am_mem 1094 (by decide +kernel) rfl) ?_
  obtain ⟨r6, er6, hf⟩ := f_bnd hf
  refine Go.cS 9 [.long a1.toInt64, .long (0 : Int64), .long (2 : Int64)] [] (C_X7_in G l n S a1.toInt64 (0 : Int64) (2 : Int64) r6  er6) rfl dX7_on_6 cx_X7_66 (by decide) (by decide) rfl (Nat.le_of_ble_eq_true rfl) ?_
  refine Go.if_ne 14 12 rfl dX7_on_9 rfl (fun hc => ?_) (fun hc => ?_)
  · replace hf := f_el hf hc
    refine Go.aload_n 0 15 rfl dX7_on_14 rfl ?_
    obtain ⟨k15, qk15, hk15, hf⟩ := f_rfd hf
    refine Go.getR 18 rfl dX7_on_15 fl_X7_28 rfl (isT_lt ha0) (isT_sh ha0) qk15 ?_
    refine Go.iload_n 1 19 rfl dX7_on_18 rfl ?_
    obtain ⟨g19, hf⟩ := f_grd hf
    refine Go.zald 20 rfl dX7_on_19 (isT_lt hk15) (isT_sh hk15) g19 ?_
    refine Go.if_ne 29 23 rfl dX7_on_20 rfl (fun hc => ?_) (fun hc => ?_)
    · replace hf := f_el hf hc
      refine Go.aload_n 0 30 rfl dX7_on_29 rfl ?_
      obtain ⟨k30, qk30, hk30, hf⟩ := f_rfd hf
      refine Go.getR 33 rfl dX7_on_30 fl_X7_25 rfl (isT_lt ha0) (isT_sh ha0) qk30 ?_
      refine Go.sipush (393 : Int32) 36 rfl dX7_on_33 cs_393 ?_
      refine Go.iload_n 1 37 rfl dX7_on_36 rfl ?_
      refine Go.imul 38 rfl dX7_on_37 ?_
      refine Go.aload_n 0 39 rfl dX7_on_38 rfl ?_
      obtain ⟨k39, qk39, hk39, hf⟩ := f_rfd hf
      refine Go.getR 42 rfl dX7_on_39 fl_X7_22 rfl (isT_lt ha0) (isT_sh ha0) qk39 ?_
      refine Go.iconst (0 : Int32) 43 rfl dX7_on_42 ci_0 ?_
      obtain ⟨S43, eS43, hf⟩ := f_bnd hf
      refine Go.cSv 46 [.ref k30, .int ((393 : Int32) * a1), .ref k39, .int (0 : Int32)] [] (C_X7_copies G l n S k30 ((393 : Int32) * a1) k39 (0 : Int32) S43 hk30 hk39 eS43) rfl dX7_on_43 cx_X7_112 (by decide) (by decide) rfl (Nat.le_of_ble_eq_true rfl) ?_
      refine Go.aload_n 0 47 rfl dX7_on_46 rfl ?_
      obtain ⟨k47, qk47, hk47, hf⟩ := f_rfd hf
      refine Go.getR 50 rfl dX7_on_47 fl_X7_22 rfl (isT_lt ha0) (isT_sh ha0) qk47 ?_
      refine Go.iconst (2 : Int32) 51 rfl dX7_on_50 ci_2 ?_
      obtain ⟨g51, hf⟩ := f_grd hf
      refine Go.iald 52 rfl dX7_on_51 (isT_lt hk47) (isT_sh hk47) g51 ?_
      exact Go.irS rfl dX7_on_52 hf
    · replace hf := f_if hf hc
      refine Go.aload_n 0 24 rfl dX7_on_23 rfl ?_
      refine Go.iconst (1 : Int32) 25 rfl dX7_on_24 ci_1 ?_
      obtain ⟨r25, S25, er25, hf⟩ := f_bn2 hf
      refine Go.cV 28 [.int (1 : Int32)] [] (C_X7_found G l n S a0 (1 : Int32) r25 S25 ha0 er25) rfl dX7_on_25 cv_X7_76 ha0 (by decide) (by decide) rfl (Nat.le_of_ble_eq_true rfl) ?_
      exact Go.irS rfl dX7_on_28 hf
  · replace hf := f_if hf hc
    refine Go.iconst (-1 : Int32) 13 rfl dX7_on_12 ci_m1 ?_
    exact Go.irS rfl dX7_on_13 hf
theorem dX7_mayMatch_0 : decode cX7_mayMatch 0 = .ok (.aload_n 0, 1) := by decide +kernel
theorem dX7_mayMatch_1 : decode cX7_mayMatch 1 = .ok (.iload_n 1, 1) := by decide +kernel
theorem dX7_mayMatch_2 : decode cX7_mayMatch 2 = .ok (.invokevirtual 147, 3) := by decide +kernel
theorem dX7_mayMatch_5 : decode cX7_mayMatch 5 = .ok (.ifCond .eq 55, 3) := by decide +kernel
theorem dX7_mayMatch_8 : decode cX7_mayMatch 8 = .ok (.aload_n 0, 1) := by decide +kernel
theorem dX7_mayMatch_9 : decode cX7_mayMatch 9 = .ok (.iload_n 2, 1) := by decide +kernel
theorem dX7_mayMatch_10 : decode cX7_mayMatch 10 = .ok (.invokevirtual 150, 3) := by decide +kernel
theorem dX7_mayMatch_13 : decode cX7_mayMatch 13 = .ok (.ifCond .eq 47, 3) := by decide +kernel
theorem dX7_mayMatch_16 : decode cX7_mayMatch 16 = .ok (.aload_n 0, 1) := by decide +kernel
theorem dX7_mayMatch_17 : decode cX7_mayMatch 17 = .ok (.iload_n 1, 1) := by decide +kernel
theorem dX7_mayMatch_18 : decode cX7_mayMatch 18 = .ok (.iload_n 2, 1) := by decide +kernel
theorem dX7_mayMatch_19 : decode cX7_mayMatch 19 = .ok (.invokevirtual 139, 3) := by decide +kernel
theorem dX7_mayMatch_22 : decode cX7_mayMatch 22 = .ok (.ifCond .eq 38, 3) := by decide +kernel
theorem dX7_mayMatch_25 : decode cX7_mayMatch 25 = .ok (.aload_n 0, 1) := by decide +kernel
theorem dX7_mayMatch_26 : decode cX7_mayMatch 26 = .ok (.getfield 22, 3) := by decide +kernel
theorem dX7_mayMatch_29 : decode cX7_mayMatch 29 = .ok (.bipush 59, 2) := by decide +kernel
theorem dX7_mayMatch_31 : decode cX7_mayMatch 31 = .ok (.iload_n 1, 1) := by decide +kernel
theorem dX7_mayMatch_32 : decode cX7_mayMatch 32 = .ok (.iadd, 1) := by decide +kernel
theorem dX7_mayMatch_33 : decode cX7_mayMatch 33 = .ok (.iaload, 1) := by decide +kernel
theorem dX7_mayMatch_34 : decode cX7_mayMatch 34 = .ok (.bipush (-9), 2) := by decide +kernel
theorem dX7_mayMatch_36 : decode cX7_mayMatch 36 = .ok (.if_icmp .eq 20, 3) := by decide +kernel
theorem dX7_mayMatch_39 : decode cX7_mayMatch 39 = .ok (.aload_n 0, 1) := by decide +kernel
theorem dX7_mayMatch_40 : decode cX7_mayMatch 40 = .ok (.getfield 22, 3) := by decide +kernel
theorem dX7_mayMatch_43 : decode cX7_mayMatch 43 = .ok (.bipush 59, 2) := by decide +kernel
theorem dX7_mayMatch_45 : decode cX7_mayMatch 45 = .ok (.iload_n 1, 1) := by decide +kernel
theorem dX7_mayMatch_46 : decode cX7_mayMatch 46 = .ok (.iadd, 1) := by decide +kernel
theorem dX7_mayMatch_47 : decode cX7_mayMatch 47 = .ok (.iaload, 1) := by decide +kernel
theorem dX7_mayMatch_48 : decode cX7_mayMatch 48 = .ok (.aload_n 0, 1) := by decide +kernel
theorem dX7_mayMatch_49 : decode cX7_mayMatch 49 = .ok (.iload_n 2, 1) := by decide +kernel
theorem dX7_mayMatch_50 : decode cX7_mayMatch 50 = .ok (.invokevirtual 120, 3) := by decide +kernel
theorem dX7_mayMatch_53 : decode cX7_mayMatch 53 = .ok (.if_icmp .ne 7, 3) := by decide +kernel
theorem dX7_mayMatch_56 : decode cX7_mayMatch 56 = .ok (.iconst 1, 1) := by decide +kernel
theorem dX7_mayMatch_57 : decode cX7_mayMatch 57 = .ok (.goto 4, 3) := by decide +kernel
theorem dX7_mayMatch_60 : decode cX7_mayMatch 60 = .ok (.iconst 0, 1) := by decide +kernel
theorem dX7_mayMatch_61 : decode cX7_mayMatch 61 = .ok (.ireturn, 1) := by decide +kernel
def F_X7_mayMatch (n : Nat) (S : aSt) (a0 : Nat) (a1 : Int32) (a2 : Int32) : Option Int32 :=
(F_X7_isFree n S a0 a1).bind fun r2 =>
if r2 = 0 then (some (0 : Int32)) else
(F_X7_isFreeCard n S a0 a2).bind fun r10 =>
if r10 = 0 then (some (0 : Int32)) else
(F_X7_isFit n S a0 a1 a2).bind fun r19 =>
if r19 = 0 then (some (0 : Int32)) else
rfd (S.2.2 a0 4) 7 fun k26 =>
grd (inb ((59 : Int32) + a1) (SH k26).2) <|
if (S.1 k26 ((59 : Int32) + a1).toNatClampNeg) = (-9 : Int32) then (some (1 : Int32)) else
grd (inb ((59 : Int32) + a1) (SH k26).2) <|
(F_X7_means n S a0 a2).bind fun r50 =>
if (S.1 k26 ((59 : Int32) + a1).toNatClampNeg) = r50 then (some (1 : Int32)) else
some (0 : Int32)
set_option maxHeartbeats 4000000 in
set_option maxRecDepth 100000 in
theorem C_X7_mayMatch (G : aG) (l : Launch) (n : Nat) (S : aSt) (a0 : Nat) (a1 : Int32) (a2 : Int32) (r : Int32) (ha0 : isT a0 6 = true) (hf : F_X7_mayMatch n S a0 a1 a2 = some r) : Ctr G l yX7_mayMatch mX7_mayMatch (rmM 4) 97 97 S [.ref a0, .int a1, .int a2] (some (.int r)) S := by
  refine Ctr.of (by decide) rfl rfl (Nat.le_of_ble_eq_true rfl) [(0, .ref a0), (1, .int a1), (2, .int a2)] rfl ?_
  unfold F_X7_mayMatch at hf
  refine Go.aload_n 0 1 rfl dX7_mayMatch_0 rfl ?_
  refine Go.iload_n 1 2 rfl dX7_mayMatch_1 rfl ?_
  obtain ⟨r2, er2, hf⟩ := f_bnd hf
  refine Go.cV 5 [.int a1] [] (C_X7_isFree G l n S a0 a1 r2 ha0 er2) rfl dX7_mayMatch_2 cv_X7_147 ha0 (by decide) (by decide) rfl (Nat.le_of_ble_eq_true rfl) ?_
  refine Go.if_eq 60 8 rfl dX7_mayMatch_5 rfl (fun hc => ?_) (fun hc => ?_)
  · replace hf := f_if hf hc
    refine Go.iconst (0 : Int32) 61 rfl dX7_mayMatch_60 ci_0 ?_
    exact Go.zr rfl (Or.inl rfl) dX7_mayMatch_61 hf
  · replace hf := f_el hf hc
    refine Go.aload_n 0 9 rfl dX7_mayMatch_8 rfl ?_
    refine Go.iload_n 2 10 rfl dX7_mayMatch_9 rfl ?_
    obtain ⟨r10, er10, hf⟩ := f_bnd hf
    refine Go.cV 13 [.int a2] [] (C_X7_isFreeCard G l n S a0 a2 r10 ha0 er10) rfl dX7_mayMatch_10 cv_X7_150 ha0 (by decide) (by decide) rfl (Nat.le_of_ble_eq_true rfl) ?_
    refine Go.if_eq 60 16 rfl dX7_mayMatch_13 rfl (fun hc => ?_) (fun hc => ?_)
    · replace hf := f_if hf hc
      refine Go.iconst (0 : Int32) 61 rfl dX7_mayMatch_60 ci_0 ?_
      exact Go.zr rfl (Or.inl rfl) dX7_mayMatch_61 hf
    · replace hf := f_el hf hc
      refine Go.aload_n 0 17 rfl dX7_mayMatch_16 rfl ?_
      refine Go.iload_n 1 18 rfl dX7_mayMatch_17 rfl ?_
      refine Go.iload_n 2 19 rfl dX7_mayMatch_18 rfl ?_
      obtain ⟨r19, er19, hf⟩ := f_bnd hf
      refine Go.cV 22 [.int a1, .int a2] [] (C_X7_isFit G l n S a0 a1 a2 r19 ha0 er19) rfl dX7_mayMatch_19 cv_X7_139 ha0 (by decide) (by decide) rfl (Nat.le_of_ble_eq_true rfl) ?_
      refine Go.if_eq 60 25 rfl dX7_mayMatch_22 rfl (fun hc => ?_) (fun hc => ?_)
      · replace hf := f_if hf hc
        refine Go.iconst (0 : Int32) 61 rfl dX7_mayMatch_60 ci_0 ?_
        exact Go.zr rfl (Or.inl rfl) dX7_mayMatch_61 hf
      · replace hf := f_el hf hc
        refine Go.aload_n 0 26 rfl dX7_mayMatch_25 rfl ?_
        obtain ⟨k26, qk26, hk26, hf⟩ := f_rfd hf
        refine Go.getR 29 rfl dX7_mayMatch_26 fl_X7_22 rfl (isT_lt ha0) (isT_sh ha0) qk26 ?_
        refine Go.bipush (59 : Int32) 31 rfl dX7_mayMatch_29 cb_59 ?_
        refine Go.iload_n 1 32 rfl dX7_mayMatch_31 rfl ?_
        refine Go.iadd 33 rfl dX7_mayMatch_32 ?_
        obtain ⟨g33, hf⟩ := f_grd hf
        refine Go.iald 34 rfl dX7_mayMatch_33 (isT_lt hk26) (isT_sh hk26) g33 ?_
        refine Go.bipush (-9 : Int32) 36 rfl dX7_mayMatch_34 cb_m9 ?_
        refine Go.icmp_eq 56 39 rfl dX7_mayMatch_36 rfl (fun hc => ?_) (fun hc => ?_)
        · replace hf := f_if hf hc
          refine Go.iconst (1 : Int32) 57 rfl dX7_mayMatch_56 ci_1 ?_
          refine Go.goto 61 dX7_mayMatch_57 rfl ?_
          exact Go.zr rfl (Or.inr rfl) dX7_mayMatch_61 hf
        · replace hf := f_el hf hc
          refine Go.aload_n 0 40 rfl dX7_mayMatch_39 rfl ?_
          refine Go.getR 43 rfl dX7_mayMatch_40 fl_X7_22 rfl (isT_lt ha0) (isT_sh ha0) qk26 ?_
          refine Go.bipush (59 : Int32) 45 rfl dX7_mayMatch_43 cb_59 ?_
          refine Go.iload_n 1 46 rfl dX7_mayMatch_45 rfl ?_
          refine Go.iadd 47 rfl dX7_mayMatch_46 ?_
          obtain ⟨g47, hf⟩ := f_grd hf
          refine Go.iald 48 rfl dX7_mayMatch_47 (isT_lt hk26) (isT_sh hk26) g47 ?_
          refine Go.aload_n 0 49 rfl dX7_mayMatch_48 rfl ?_
          refine Go.iload_n 2 50 rfl dX7_mayMatch_49 rfl ?_
          obtain ⟨r50, er50, hf⟩ := f_bnd hf
          refine Go.cV 53 [.int a2] [.int (S.1 k26 ((59 : Int32) + a1).toNatClampNeg)] (C_X7_means G l n S a0 a2 r50 ha0 er50) rfl dX7_mayMatch_50 cv_X7_120 ha0 (by decide) (by decide) rfl (Nat.le_of_ble_eq_true rfl) ?_
          refine Go.icmp_ne 60 56 rfl dX7_mayMatch_53 rfl (fun hc => ?_) (fun hc => ?_)
          · replace hf := f_el hf hc
            refine Go.iconst (0 : Int32) 61 rfl dX7_mayMatch_60 ci_0 ?_
            exact Go.zr rfl (Or.inl rfl) dX7_mayMatch_61 hf
          · replace hf := f_if hf hc
            refine Go.iconst (1 : Int32) 57 rfl dX7_mayMatch_56 ci_1 ?_
            refine Go.goto 61 dX7_mayMatch_57 rfl ?_
            exact Go.zr rfl (Or.inr rfl) dX7_mayMatch_61 hf
theorem dX7_counts_0 : decode cX7_counts 0 = .ok (.aload_n 0, 1) := by decide +kernel
theorem dX7_counts_1 : decode cX7_counts 1 = .ok (.getfield 22, 3) := by decide +kernel
theorem dX7_counts_4 : decode cX7_counts 4 = .ok (.iconst 0, 1) := by decide +kernel
theorem dX7_counts_5 : decode cX7_counts 5 = .ok (.iaload, 1) := by decide +kernel
theorem dX7_counts_6 : decode cX7_counts 6 = .ok (.istore_n 2, 1) := by decide +kernel
theorem dX7_counts_7 : decode cX7_counts 7 = .ok (.iload_n 1, 1) := by decide +kernel
theorem dX7_counts_8 : decode cX7_counts 8 = .ok (.aload_n 0, 1) := by decide +kernel
theorem dX7_counts_9 : decode cX7_counts 9 = .ok (.getfield 165, 3) := by decide +kernel
theorem dX7_counts_12 : decode cX7_counts 12 = .ok (.if_icmp .le 79, 3) := by decide +kernel
theorem dX7_counts_15 : decode cX7_counts 15 = .ok (.aload_n 0, 1) := by decide +kernel
theorem dX7_counts_16 : decode cX7_counts 16 = .ok (.iload_n 1, 1) := by decide +kernel
theorem dX7_counts_17 : decode cX7_counts 17 = .ok (.putfield 165, 3) := by decide +kernel
theorem dX7_counts_20 : decode cX7_counts 20 = .ok (.aload_n 0, 1) := by decide +kernel
theorem dX7_counts_21 : decode cX7_counts 21 = .ok (.iconst 0, 1) := by decide +kernel
theorem dX7_counts_22 : decode cX7_counts 22 = .ok (.putfield 175, 3) := by decide +kernel
theorem dX7_counts_25 : decode cX7_counts 25 = .ok (.iconst 0, 1) := by decide +kernel
theorem dX7_counts_26 : decode cX7_counts 26 = .ok (.istore_n 3, 1) := by decide +kernel
theorem dX7_counts_27 : decode cX7_counts 27 = .ok (.iload_n 3, 1) := by decide +kernel
theorem dX7_counts_28 : decode cX7_counts 28 = .ok (.bipush 49, 2) := by decide +kernel
theorem dX7_counts_30 : decode cX7_counts 30 = .ok (.if_icmp .ge 16, 3) := by decide +kernel
theorem dX7_counts_33 : decode cX7_counts 33 = .ok (.aload_n 0, 1) := by decide +kernel
theorem dX7_counts_34 : decode cX7_counts 34 = .ok (.getfield 48, 3) := by decide +kernel
theorem dX7_counts_37 : decode cX7_counts 37 = .ok (.iload_n 3, 1) := by decide +kernel
theorem dX7_counts_38 : decode cX7_counts 38 = .ok (.iconst 0, 1) := by decide +kernel
theorem dX7_counts_39 : decode cX7_counts 39 = .ok (.iastore, 1) := by decide +kernel
theorem dX7_counts_40 : decode cX7_counts 40 = .ok (.iinc 3 1, 3) := by decide +kernel
theorem dX7_counts_43 : decode cX7_counts 43 = .ok (.goto (-16), 3) := by decide +kernel
theorem dX7_counts_46 : decode cX7_counts 46 = .ok (.iconst 0, 1) := by decide +kernel
theorem dX7_counts_47 : decode cX7_counts 47 = .ok (.istore_n 3, 1) := by decide +kernel
theorem dX7_counts_48 : decode cX7_counts 48 = .ok (.iload_n 3, 1) := by decide +kernel
theorem dX7_counts_49 : decode cX7_counts 49 = .ok (.aload_n 0, 1) := by decide +kernel
theorem dX7_counts_50 : decode cX7_counts 50 = .ok (.getfield 22, 3) := by decide +kernel
theorem dX7_counts_53 : decode cX7_counts 53 = .ok (.iconst 1, 1) := by decide +kernel
theorem dX7_counts_54 : decode cX7_counts 54 = .ok (.iaload, 1) := by decide +kernel
theorem dX7_counts_55 : decode cX7_counts 55 = .ok (.if_icmp .ge 36, 3) := by decide +kernel
theorem dX7_counts_58 : decode cX7_counts 58 = .ok (.aload_n 0, 1) := by decide +kernel
theorem dX7_counts_59 : decode cX7_counts 59 = .ok (.getfield 45, 3) := by decide +kernel
theorem dX7_counts_62 : decode cX7_counts 62 = .ok (.iload_n 3, 1) := by decide +kernel
theorem dX7_counts_63 : decode cX7_counts 63 = .ok (.aload_n 0, 1) := by decide +kernel
theorem dX7_counts_64 : decode cX7_counts 64 = .ok (.getfield 42, 3) := by decide +kernel
theorem dX7_counts_67 : decode cX7_counts 67 = .ok (.iload_n 3, 1) := by decide +kernel
theorem dX7_counts_68 : decode cX7_counts 68 = .ok (.iaload, 1) := by decide +kernel
theorem dX7_counts_69 : decode cX7_counts 69 = .ok (.iload_n 2, 1) := by decide +kernel
theorem dX7_counts_70 : decode cX7_counts 70 = .ok (.if_icmp .ge 12, 3) := by decide +kernel
theorem dX7_counts_73 : decode cX7_counts 73 = .ok (.aload_n 0, 1) := by decide +kernel
theorem dX7_counts_74 : decode cX7_counts 74 = .ok (.getfield 42, 3) := by decide +kernel
theorem dX7_counts_77 : decode cX7_counts 77 = .ok (.iload_n 3, 1) := by decide +kernel
theorem dX7_counts_78 : decode cX7_counts 78 = .ok (.iaload, 1) := by decide +kernel
theorem dX7_counts_79 : decode cX7_counts 79 = .ok (.goto 5, 3) := by decide +kernel
theorem dX7_counts_82 : decode cX7_counts 82 = .ok (.bipush (-9), 2) := by decide +kernel
theorem dX7_counts_84 : decode cX7_counts 84 = .ok (.iastore, 1) := by decide +kernel
theorem dX7_counts_85 : decode cX7_counts 85 = .ok (.iinc 3 1, 3) := by decide +kernel
theorem dX7_counts_88 : decode cX7_counts 88 = .ok (.goto (-40), 3) := by decide +kernel
theorem dX7_counts_91 : decode cX7_counts 91 = .ok (.iload_n 1, 1) := by decide +kernel
theorem dX7_counts_92 : decode cX7_counts 92 = .ok (.aload_n 0, 1) := by decide +kernel
theorem dX7_counts_93 : decode cX7_counts 93 = .ok (.getfield 165, 3) := by decide +kernel
theorem dX7_counts_96 : decode cX7_counts 96 = .ok (.if_icmp .ne 61, 3) := by decide +kernel
theorem dX7_counts_99 : decode cX7_counts 99 = .ok (.aload_n 0, 1) := by decide +kernel
theorem dX7_counts_100 : decode cX7_counts 100 = .ok (.dup, 1) := by decide +kernel
theorem dX7_counts_101 : decode cX7_counts 101 = .ok (.getfield 175, 3) := by decide +kernel
theorem dX7_counts_104 : decode cX7_counts 104 = .ok (.iconst 1, 1) := by decide +kernel
theorem dX7_counts_105 : decode cX7_counts 105 = .ok (.iadd, 1) := by decide +kernel
theorem dX7_counts_106 : decode cX7_counts 106 = .ok (.putfield 175, 3) := by decide +kernel
theorem dX7_counts_109 : decode cX7_counts 109 = .ok (.iconst 0, 1) := by decide +kernel
theorem dX7_counts_110 : decode cX7_counts 110 = .ok (.istore_n 3, 1) := by decide +kernel
theorem dX7_counts_111 : decode cX7_counts 111 = .ok (.iload_n 3, 1) := by decide +kernel
theorem dX7_counts_112 : decode cX7_counts 112 = .ok (.aload_n 0, 1) := by decide +kernel
theorem dX7_counts_113 : decode cX7_counts 113 = .ok (.getfield 22, 3) := by decide +kernel
theorem dX7_counts_116 : decode cX7_counts 116 = .ok (.iconst 1, 1) := by decide +kernel
theorem dX7_counts_117 : decode cX7_counts 117 = .ok (.iaload, 1) := by decide +kernel
theorem dX7_counts_118 : decode cX7_counts 118 = .ok (.if_icmp .ge 39, 3) := by decide +kernel
theorem dX7_counts_121 : decode cX7_counts 121 = .ok (.aload_n 0, 1) := by decide +kernel
theorem dX7_counts_122 : decode cX7_counts 122 = .ok (.getfield 42, 3) := by decide +kernel
theorem dX7_counts_125 : decode cX7_counts 125 = .ok (.iload_n 3, 1) := by decide +kernel
theorem dX7_counts_126 : decode cX7_counts 126 = .ok (.iaload, 1) := by decide +kernel
theorem dX7_counts_127 : decode cX7_counts 127 = .ok (.iload_n 2, 1) := by decide +kernel
theorem dX7_counts_128 : decode cX7_counts 128 = .ok (.if_icmp .ge 23, 3) := by decide +kernel
theorem dX7_counts_131 : decode cX7_counts 131 = .ok (.aload_n 0, 1) := by decide +kernel
theorem dX7_counts_132 : decode cX7_counts 132 = .ok (.getfield 48, 3) := by decide +kernel
theorem dX7_counts_135 : decode cX7_counts 135 = .ok (.bipush 7, 2) := by decide +kernel
theorem dX7_counts_137 : decode cX7_counts 137 = .ok (.iload_n 3, 1) := by decide +kernel
theorem dX7_counts_138 : decode cX7_counts 138 = .ok (.imul, 1) := by decide +kernel
theorem dX7_counts_139 : decode cX7_counts 139 = .ok (.aload_n 0, 1) := by decide +kernel
theorem dX7_counts_140 : decode cX7_counts 140 = .ok (.getfield 42, 3) := by decide +kernel
theorem dX7_counts_143 : decode cX7_counts 143 = .ok (.iload_n 3, 1) := by decide +kernel
theorem dX7_counts_144 : decode cX7_counts 144 = .ok (.iaload, 1) := by decide +kernel
theorem dX7_counts_145 : decode cX7_counts 145 = .ok (.iadd, 1) := by decide +kernel
theorem dX7_counts_146 : decode cX7_counts 146 = .ok (.dup2, 1) := by decide +kernel
theorem dX7_counts_147 : decode cX7_counts 147 = .ok (.iaload, 1) := by decide +kernel
theorem dX7_counts_148 : decode cX7_counts 148 = .ok (.iconst 1, 1) := by decide +kernel
theorem dX7_counts_149 : decode cX7_counts 149 = .ok (.iadd, 1) := by decide +kernel
theorem dX7_counts_150 : decode cX7_counts 150 = .ok (.iastore, 1) := by decide +kernel
theorem dX7_counts_151 : decode cX7_counts 151 = .ok (.iinc 3 1, 3) := by decide +kernel
theorem dX7_counts_154 : decode cX7_counts 154 = .ok (.goto (-43), 3) := by decide +kernel
theorem dX7_counts_157 : decode cX7_counts 157 = .ok (.return_, 1) := by decide +kernel
def F_X7_counts_L111 (a0 : Nat) (v6 : Int32) (K157 : aSt → Option aSt) : Nat → Int32 → aSt → Option aSt
  | 0, _, _ => none
  | fu + 1, l111_3, l111S =>
    rfd (l111S.2.2 a0 4) 7 fun k113 =>
    grd (inb (1 : Int32) (SH k113).2) <|
    if (l111S.1 k113 (1 : Int32).toNatClampNeg) ≤ l111_3 then (K157 l111S) else
    rfd (l111S.2.2 a0 14) 7 fun k122 =>
    grd (inb l111_3 (SH k122).2) <|
    jn (fun (j151S : aSt) => (F_X7_counts_L111 a0 v6 K157 fu (l111_3 + (1 : Int32)) j151S : Option aSt)) fun K151 =>
    if v6 ≤ (l111S.1 k122 l111_3.toNatClampNeg) then (K151 l111S) else
    rfd (l111S.2.2 a0 16) 7 fun k132 =>
    grd (inb l111_3 (SH k122).2) <|
    grd (inb (((7 : Int32) * l111_3) + (l111S.1 k122 l111_3.toNatClampNeg)) (SH k132).2) <|
    grd (inb (((7 : Int32) * l111_3) + (l111S.1 k122 l111_3.toNatClampNeg)) (SH k132).2) <|
    nm (stI l111S k132 (((7 : Int32) * l111_3) + (l111S.1 k122 l111_3.toNatClampNeg)).toNatClampNeg ((l111S.1 k132 (((7 : Int32) * l111_3) + (l111S.1 k122 l111_3.toNatClampNeg)).toNatClampNeg) + (1 : Int32))) fun S150 =>
    K151 S150
def F_X7_counts_L48 (a0 : Nat) (v6 : Int32) (K91 : aSt → Option aSt) : Nat → Int32 → aSt → Option aSt
  | 0, _, _ => none
  | fu + 1, l48_3, l48S =>
    rfd (l48S.2.2 a0 4) 7 fun k50 =>
    grd (inb (1 : Int32) (SH k50).2) <|
    if (l48S.1 k50 (1 : Int32).toNatClampNeg) ≤ l48_3 then (K91 l48S) else
    rfd (l48S.2.2 a0 15) 7 fun k59 =>
    rfd (l48S.2.2 a0 14) 7 fun k64 =>
    grd (inb l48_3 (SH k64).2) <|
    jn (fun (j84s2 : Int32) => (grd (inb l48_3 (SH k59).2) <|
    nm (stI l48S k59 l48_3.toNatClampNeg j84s2) fun S84 =>
    F_X7_counts_L48 a0 v6 K91 fu (l48_3 + (1 : Int32)) S84 : Option aSt)) fun K84 =>
    if v6 ≤ (l48S.1 k64 l48_3.toNatClampNeg) then (K84 (-9 : Int32)) else
    grd (inb l48_3 (SH k64).2) <|
    K84 (l48S.1 k64 l48_3.toNatClampNeg)
def F_X7_counts_L27 (a0 : Nat) (K46 : aSt → Option aSt) : Nat → Int32 → aSt → Option aSt
  | 0, _, _ => none
  | fu + 1, l27_3, l27S =>
    if (49 : Int32) ≤ l27_3 then (K46 l27S) else
    rfd (l27S.2.2 a0 16) 7 fun k34 =>
    grd (inb l27_3 (SH k34).2) <|
    nm (stI l27S k34 l27_3.toNatClampNeg (0 : Int32)) fun S39 =>
    F_X7_counts_L27 a0 K46 fu (l27_3 + (1 : Int32)) S39
def F_X7_counts (n : Nat) (S : aSt) (a0 : Nat) (a1 : Int32) : Option aSt :=
rfd (S.2.2 a0 4) 7 fun k1 =>
grd (inb (0 : Int32) (SH k1).2) <|
nm (S.1 k1 (0 : Int32).toNatClampNeg) fun v6 =>
jn (fun (j91S : aSt) => (if a1 = (j91S.1 a0 18) then (nm (stI j91S a0 17 ((j91S.1 a0 17) + (1 : Int32))) fun S106 =>
jn (fun (x157S : aSt) => (some x157S : Option aSt)) fun K157 =>
F_X7_counts_L111 a0 v6 K157 n (0 : Int32) S106) else
some j91S : Option aSt)) fun K91 =>
if a1 ≤ (S.1 a0 18) then (K91 S) else
nm (stI S a0 18 a1) fun S17 =>
nm (stI S17 a0 17 (0 : Int32)) fun S22 =>
jn (fun (x46S : aSt) => (F_X7_counts_L48 a0 v6 K91 n (0 : Int32) x46S : Option aSt)) fun K46 =>
F_X7_counts_L27 a0 K46 n (0 : Int32) S22
set_option maxHeartbeats 4000000 in
set_option maxRecDepth 100000 in
theorem C_X7_counts (G : aG) (l : Launch) (n : Nat) (S : aSt) (a0 : Nat) (a1 : Int32) (Sr : aSt) (ha0 : isT a0 6 = true) (hf : F_X7_counts n S a0 a1 = some Sr) : Ctr G l yX7_counts mX7_counts (rmM 1) 97 97 S [.ref a0, .int a1] none Sr := by
  refine Ctr.of (by decide) rfl rfl (Nat.le_of_ble_eq_true rfl) [(0, .ref a0), (1, .int a1)] rfl ?_
  unfold F_X7_counts at hf
  refine Go.aload_n 0 1 rfl dX7_counts_0 rfl ?_
  obtain ⟨k1, qk1, hk1, hf⟩ := f_rfd hf
  refine Go.getR 4 rfl dX7_counts_1 fl_X7_22 rfl (isT_lt ha0) (isT_sh ha0) qk1 ?_
  refine Go.iconst (0 : Int32) 5 rfl dX7_counts_4 ci_0 ?_
  obtain ⟨g5, hf⟩ := f_grd hf
  refine Go.iald 6 rfl dX7_counts_5 (isT_lt hk1) (isT_sh hk1) g5 ?_
  obtain ⟨v6, ev6, hf⟩ := f_nm hf
  refine Go.topi v6 ev6 ?_
  refine Go.istore_n 7 [(2, .int v6), (0, .ref a0), (1, .int a1)] rfl dX7_counts_6 (by decide) rfl ?_
  refine Go.iload_n 2 8 rfl dX7_counts_7 rfl ?_
  refine Go.aload_n 1 9 rfl dX7_counts_8 rfl ?_
  refine Go.getI 12 rfl dX7_counts_9 fl_X7_165 rfl (isT_lt ha0) (isT_sh ha0) ?_
  obtain ⟨K91, eK91, hf⟩ := f_jn hf
  have J91 : ∀ (j91S : aSt), K91 j91S = some Sr → GoM G l 1 (TmR G none 97 Sr 0 0) mX7_counts 91 [(0, .ref a0), (1, .int a1), (2, .int v6)] [] j91S := by
    intro j91S hf
    rw [eK91] at hf
    refine Go.iload_n 1 92 rfl dX7_counts_91 rfl ?_
    refine Go.aload_n 0 93 rfl dX7_counts_92 rfl ?_
    refine Go.getI 96 rfl dX7_counts_93 fl_X7_165 rfl (isT_lt ha0) (isT_sh ha0) ?_
    refine Go.icmp_ne 157 99 rfl dX7_counts_96 rfl (fun hc => ?_) (fun hc => ?_)
    · replace hf := f_el hf hc
      exact Go.vr rfl dX7_counts_157 hf
    · replace hf := f_if hf hc
      refine Go.aload_n 0 100 rfl dX7_counts_99 rfl ?_
      refine Go.dup 101 rfl dX7_counts_100 rfl ?_
      refine Go.getI 104 rfl dX7_counts_101 fl_X7_175 rfl (isT_lt ha0) (isT_sh ha0) ?_
      refine Go.iconst (1 : Int32) 105 rfl dX7_counts_104 ci_1 ?_
      refine Go.iadd 106 rfl dX7_counts_105 ?_
      obtain ⟨S106, eS106, hf⟩ := f_nm hf
      refine Go.putI 109 rfl dX7_counts_106 fp_X7_175 rfl (isT_lt ha0) (isT_sh ha0) (fun h => by cases h) (Go.stt S106 eS106 ?_)
      refine Go.iconst (0 : Int32) 110 rfl dX7_counts_109 ci_0 ?_
      refine Go.istore_n 111 [(3, .int (0 : Int32)), (0, .ref a0), (1, .int a1), (2, .int v6)] rfl dX7_counts_110 (by decide) rfl ?_
      obtain ⟨K157, eK157, hf⟩ := f_jn hf
      have J157 : ∀ (x157S : aSt), K157 x157S = some Sr → GoM G l 1 (TmR G none 97 Sr 0 0) mX7_counts 157 [] [] x157S := by
        intro x157S hf
        rw [eK157] at hf
        exact Go.vr rfl dX7_counts_157 hf
      clear eK157
      have L111 : ∀ (fu : Nat) (l111_3 : Int32) (l111S : aSt), F_X7_counts_L111 a0 v6 K157 fu l111_3 l111S = some Sr → GoM G l 1 (TmR G none 97 Sr 0 0) mX7_counts 111 [(0, .ref a0), (2, .int v6), (3, .int l111_3)] [] l111S := by
        intro fu
        induction fu with
        | zero => intro l111_3 l111S hf; rw [F_X7_counts_L111] at hf; cases hf
        | succ fu ih =>
          intro l111_3 l111S hf
          rw [F_X7_counts_L111] at hf
          refine Go.iload_n 2 112 rfl dX7_counts_111 rfl ?_
          refine Go.aload_n 0 113 rfl dX7_counts_112 rfl ?_
          obtain ⟨k113, qk113, hk113, hf⟩ := f_rfd hf
          refine Go.getR 116 rfl dX7_counts_113 fl_X7_22 rfl (isT_lt ha0) (isT_sh ha0) qk113 ?_
          refine Go.iconst (1 : Int32) 117 rfl dX7_counts_116 ci_1 ?_
          obtain ⟨g117, hf⟩ := f_grd hf
          refine Go.iald 118 rfl dX7_counts_117 (isT_lt hk113) (isT_sh hk113) g117 ?_
          refine Go.icmp_ge 157 121 rfl dX7_counts_118 rfl (fun hc => ?_) (fun hc => ?_)
          · replace hf := f_if hf hc
            exact Go.sub [] [] rfl (J157 l111S hf)
          · replace hf := f_el hf hc
            refine Go.aload_n 0 122 rfl dX7_counts_121 rfl ?_
            obtain ⟨k122, qk122, hk122, hf⟩ := f_rfd hf
            refine Go.getR 125 rfl dX7_counts_122 fl_X7_42 rfl (isT_lt ha0) (isT_sh ha0) qk122 ?_
            refine Go.iload_n 2 126 rfl dX7_counts_125 rfl ?_
            obtain ⟨g126, hf⟩ := f_grd hf
            refine Go.iald 127 rfl dX7_counts_126 (isT_lt hk122) (isT_sh hk122) g126 ?_
            refine Go.iload_n 1 128 rfl dX7_counts_127 rfl ?_
            obtain ⟨K151, eK151, hf⟩ := f_jn hf
            have J151 : ∀ (j151S : aSt), K151 j151S = some Sr → GoM G l 1 (TmR G none 97 Sr 0 0) mX7_counts 151 [(0, .ref a0), (2, .int v6), (3, .int l111_3)] [] j151S := by
              intro j151S hf
              rw [eK151] at hf
              refine Go.inc 2 154 (1 : Int32) [(3, .int (l111_3 + (1 : Int32))), (0, .ref a0), (2, .int v6)] rfl dX7_counts_151 rfl ci_1 (by decide) rfl ?_
              refine Go.goto 111 dX7_counts_154 rfl ?_
              exact Go.sub [1, 2, 0] [(0, .ref a0), (2, .int v6), (3, .int (l111_3 + (1 : Int32)))] rfl (ih (l111_3 + (1 : Int32)) j151S hf)
            clear eK151
            refine Go.icmp_ge 151 131 rfl dX7_counts_128 rfl (fun hc => ?_) (fun hc => ?_)
            · replace hf := f_if hf hc
              exact J151 l111S hf
            · replace hf := f_el hf hc
              refine Go.aload_n 0 132 rfl dX7_counts_131 rfl ?_
              obtain ⟨k132, qk132, hk132, hf⟩ := f_rfd hf
              refine Go.getR 135 rfl dX7_counts_132 fl_X7_48 rfl (isT_lt ha0) (isT_sh ha0) qk132 ?_
              refine Go.bipush (7 : Int32) 137 rfl dX7_counts_135 cb_7 ?_
              refine Go.iload_n 2 138 rfl dX7_counts_137 rfl ?_
              refine Go.imul 139 rfl dX7_counts_138 ?_
              refine Go.aload_n 0 140 rfl dX7_counts_139 rfl ?_
              refine Go.getR 143 rfl dX7_counts_140 fl_X7_42 rfl (isT_lt ha0) (isT_sh ha0) qk122 ?_
              refine Go.iload_n 2 144 rfl dX7_counts_143 rfl ?_
              obtain ⟨g144, hf⟩ := f_grd hf
              refine Go.iald 145 rfl dX7_counts_144 (isT_lt hk122) (isT_sh hk122) g144 ?_
              refine Go.iadd 146 rfl dX7_counts_145 ?_
              refine Go.dup2 147 rfl dX7_counts_146 rfl rfl ?_
              obtain ⟨g147, hf⟩ := f_grd hf
              refine Go.iald 148 rfl dX7_counts_147 (isT_lt hk132) (isT_sh hk132) g147 ?_
              refine Go.iconst (1 : Int32) 149 rfl dX7_counts_148 ci_1 ?_
              refine Go.iadd 150 rfl dX7_counts_149 ?_
              obtain ⟨g150, hf⟩ := f_grd hf
              obtain ⟨S150, eS150, hf⟩ := f_nm hf
              refine Go.iast 151 rfl dX7_counts_150 (isT_lt hk132) (isT_sh hk132) g150 (Go.stt S150 eS150 ?_)
              exact J151 S150 hf
      exact Go.sub [1, 3, 0] [(0, .ref a0), (2, .int v6), (3, .int (0 : Int32))] rfl (L111 n (0 : Int32) S106 hf)
  clear eK91
  refine Go.icmp_le 91 15 rfl dX7_counts_12 rfl (fun hc => ?_) (fun hc => ?_)
  · replace hf := f_if hf hc
    exact Go.sub [1, 2, 0] [(0, .ref a0), (1, .int a1), (2, .int v6)] rfl (J91 S hf)
  · replace hf := f_el hf hc
    refine Go.aload_n 1 16 rfl dX7_counts_15 rfl ?_
    refine Go.iload_n 2 17 rfl dX7_counts_16 rfl ?_
    obtain ⟨S17, eS17, hf⟩ := f_nm hf
    refine Go.putI 20 rfl dX7_counts_17 fp_X7_165 rfl (isT_lt ha0) (isT_sh ha0) (fun h => by cases h) (Go.stt S17 eS17 ?_)
    refine Go.aload_n 1 21 rfl dX7_counts_20 rfl ?_
    refine Go.iconst (0 : Int32) 22 rfl dX7_counts_21 ci_0 ?_
    obtain ⟨S22, eS22, hf⟩ := f_nm hf
    refine Go.putI 25 rfl dX7_counts_22 fp_X7_175 rfl (isT_lt ha0) (isT_sh ha0) (fun h => by cases h) (Go.stt S22 eS22 ?_)
    refine Go.iconst (0 : Int32) 26 rfl dX7_counts_25 ci_0 ?_
    refine Go.istore_n 27 [(3, .int (0 : Int32)), (2, .int v6), (0, .ref a0), (1, .int a1)] rfl dX7_counts_26 (by decide) rfl ?_
    obtain ⟨K46, eK46, hf⟩ := f_jn hf
    have J46 : ∀ (x46S : aSt), K46 x46S = some Sr → GoM G l 1 (TmR G none 97 Sr 0 0) mX7_counts 46 [(0, .ref a0), (1, .int a1), (2, .int v6)] [] x46S := by
      intro x46S hf
      rw [eK46] at hf
      refine Go.iconst (0 : Int32) 47 rfl dX7_counts_46 ci_0 ?_
      refine Go.istore_n 48 [(3, .int (0 : Int32)), (0, .ref a0), (1, .int a1), (2, .int v6)] rfl dX7_counts_47 (by decide) rfl ?_
      have L48 : ∀ (fu : Nat) (l48_3 : Int32) (l48S : aSt), F_X7_counts_L48 a0 v6 K91 fu l48_3 l48S = some Sr → GoM G l 1 (TmR G none 97 Sr 0 0) mX7_counts 48 [(0, .ref a0), (1, .int a1), (2, .int v6), (3, .int l48_3)] [] l48S := by
        intro fu
        induction fu with
        | zero => intro l48_3 l48S hf; rw [F_X7_counts_L48] at hf; cases hf
        | succ fu ih =>
          intro l48_3 l48S hf
          rw [F_X7_counts_L48] at hf
          refine Go.iload_n 3 49 rfl dX7_counts_48 rfl ?_
          refine Go.aload_n 0 50 rfl dX7_counts_49 rfl ?_
          obtain ⟨k50, qk50, hk50, hf⟩ := f_rfd hf
          refine Go.getR 53 rfl dX7_counts_50 fl_X7_22 rfl (isT_lt ha0) (isT_sh ha0) qk50 ?_
          refine Go.iconst (1 : Int32) 54 rfl dX7_counts_53 ci_1 ?_
          obtain ⟨g54, hf⟩ := f_grd hf
          refine Go.iald 55 rfl dX7_counts_54 (isT_lt hk50) (isT_sh hk50) g54 ?_
          refine Go.icmp_ge 91 58 rfl dX7_counts_55 rfl (fun hc => ?_) (fun hc => ?_)
          · replace hf := f_if hf hc
            exact Go.sub [0, 1, 2] [(0, .ref a0), (1, .int a1), (2, .int v6)] rfl (J91 l48S hf)
          · replace hf := f_el hf hc
            refine Go.aload_n 0 59 rfl dX7_counts_58 rfl ?_
            obtain ⟨k59, qk59, hk59, hf⟩ := f_rfd hf
            refine Go.getR 62 rfl dX7_counts_59 fl_X7_45 rfl (isT_lt ha0) (isT_sh ha0) qk59 ?_
            refine Go.iload_n 3 63 rfl dX7_counts_62 rfl ?_
            refine Go.aload_n 0 64 rfl dX7_counts_63 rfl ?_
            obtain ⟨k64, qk64, hk64, hf⟩ := f_rfd hf
            refine Go.getR 67 rfl dX7_counts_64 fl_X7_42 rfl (isT_lt ha0) (isT_sh ha0) qk64 ?_
            refine Go.iload_n 3 68 rfl dX7_counts_67 rfl ?_
            obtain ⟨g68, hf⟩ := f_grd hf
            refine Go.iald 69 rfl dX7_counts_68 (isT_lt hk64) (isT_sh hk64) g68 ?_
            refine Go.iload_n 2 70 rfl dX7_counts_69 rfl ?_
            obtain ⟨K84, eK84, hf⟩ := f_jn hf
            have J84 : ∀ (j84s2 : Int32), K84 j84s2 = some Sr → GoM G l 1 (TmR G none 97 Sr 0 0) mX7_counts 84 [(0, .ref a0), (1, .int a1), (2, .int v6), (3, .int l48_3)] [.int j84s2, .int l48_3, .ref k59] l48S := by
              intro j84s2 hf
              rw [eK84] at hf
              obtain ⟨g84, hf⟩ := f_grd hf
              obtain ⟨S84, eS84, hf⟩ := f_nm hf
              refine Go.iast 85 rfl dX7_counts_84 (isT_lt hk59) (isT_sh hk59) g84 (Go.stt S84 eS84 ?_)
              refine Go.inc 3 88 (1 : Int32) [(3, .int (l48_3 + (1 : Int32))), (0, .ref a0), (1, .int a1), (2, .int v6)] rfl dX7_counts_85 rfl ci_1 (by decide) rfl ?_
              refine Go.goto 48 dX7_counts_88 rfl ?_
              exact Go.sub [1, 2, 3, 0] [(0, .ref a0), (1, .int a1), (2, .int v6), (3, .int (l48_3 + (1 : Int32)))] rfl (ih (l48_3 + (1 : Int32)) S84 hf)
            clear eK84
            refine Go.icmp_ge 82 73 rfl dX7_counts_70 rfl (fun hc => ?_) (fun hc => ?_)
            · replace hf := f_if hf hc
              refine Go.bipush (-9 : Int32) 84 rfl dX7_counts_82 cb_m9 ?_
              exact J84 (-9 : Int32) hf
            · replace hf := f_el hf hc
              refine Go.aload_n 0 74 rfl dX7_counts_73 rfl ?_
              refine Go.getR 77 rfl dX7_counts_74 fl_X7_42 rfl (isT_lt ha0) (isT_sh ha0) qk64 ?_
              refine Go.iload_n 3 78 rfl dX7_counts_77 rfl ?_
              obtain ⟨g78, hf⟩ := f_grd hf
              refine Go.iald 79 rfl dX7_counts_78 (isT_lt hk64) (isT_sh hk64) g78 ?_
              refine Go.goto 84 dX7_counts_79 rfl ?_
              exact J84 (l48S.1 k64 l48_3.toNatClampNeg) hf
      exact Go.sub [1, 2, 3, 0] [(0, .ref a0), (1, .int a1), (2, .int v6), (3, .int (0 : Int32))] rfl (L48 n (0 : Int32) x46S hf)
    clear eK46
    have L27 : ∀ (fu : Nat) (l27_3 : Int32) (l27S : aSt), F_X7_counts_L27 a0 K46 fu l27_3 l27S = some Sr → GoM G l 1 (TmR G none 97 Sr 0 0) mX7_counts 27 [(0, .ref a0), (1, .int a1), (2, .int v6), (3, .int l27_3)] [] l27S := by
      intro fu
      induction fu with
      | zero => intro l27_3 l27S hf; rw [F_X7_counts_L27] at hf; cases hf
      | succ fu ih =>
        intro l27_3 l27S hf
        rw [F_X7_counts_L27] at hf
        refine Go.iload_n 3 28 rfl dX7_counts_27 rfl ?_
        refine Go.bipush (49 : Int32) 30 rfl dX7_counts_28 cb_49 ?_
        refine Go.icmp_ge 46 33 rfl dX7_counts_30 rfl (fun hc => ?_) (fun hc => ?_)
        · replace hf := f_if hf hc
          exact Go.sub [0, 1, 2] [(0, .ref a0), (1, .int a1), (2, .int v6)] rfl (J46 l27S hf)
        · replace hf := f_el hf hc
          refine Go.aload_n 0 34 rfl dX7_counts_33 rfl ?_
          obtain ⟨k34, qk34, hk34, hf⟩ := f_rfd hf
          refine Go.getR 37 rfl dX7_counts_34 fl_X7_48 rfl (isT_lt ha0) (isT_sh ha0) qk34 ?_
          refine Go.iload_n 3 38 rfl dX7_counts_37 rfl ?_
          refine Go.iconst (0 : Int32) 39 rfl dX7_counts_38 ci_0 ?_
          obtain ⟨g39, hf⟩ := f_grd hf
          obtain ⟨S39, eS39, hf⟩ := f_nm hf
          refine Go.iast 40 rfl dX7_counts_39 (isT_lt hk34) (isT_sh hk34) g39 (Go.stt S39 eS39 ?_)
          refine Go.inc 3 43 (1 : Int32) [(3, .int (l27_3 + (1 : Int32))), (0, .ref a0), (1, .int a1), (2, .int v6)] rfl dX7_counts_40 rfl ci_1 (by decide) rfl ?_
          refine Go.goto 27 dX7_counts_43 rfl ?_
          exact Go.sub [1, 2, 3, 0] [(0, .ref a0), (1, .int a1), (2, .int v6), (3, .int (l27_3 + (1 : Int32)))] rfl (ih (l27_3 + (1 : Int32)) S39 hf)
    exact Go.sub [2, 3, 1, 0] [(0, .ref a0), (1, .int a1), (2, .int v6), (3, .int (0 : Int32))] rfl (L27 n (0 : Int32) S22 hf)
theorem dX7_layMatchings_0 : decode cX7_layMatchings 0 = .ok (.aload_n 0, 1) := by decide +kernel
theorem dX7_layMatchings_1 : decode cX7_layMatchings 1 = .ok (.getfield 22, 3) := by decide +kernel
theorem dX7_layMatchings_4 : decode cX7_layMatchings 4 = .ok (.iconst 1, 1) := by decide +kernel
theorem dX7_layMatchings_5 : decode cX7_layMatchings 5 = .ok (.iaload, 1) := by decide +kernel
theorem dX7_layMatchings_6 : decode cX7_layMatchings 6 = .ok (.istore_n 2, 1) := by decide +kernel
theorem dX7_layMatchings_7 : decode cX7_layMatchings 7 = .ok (.aload_n 0, 1) := by decide +kernel
theorem dX7_layMatchings_8 : decode cX7_layMatchings 8 = .ok (.getfield 22, 3) := by decide +kernel
theorem dX7_layMatchings_11 : decode cX7_layMatchings 11 = .ok (.iconst 0, 1) := by decide +kernel
theorem dX7_layMatchings_12 : decode cX7_layMatchings 12 = .ok (.iaload, 1) := by decide +kernel
theorem dX7_layMatchings_13 : decode cX7_layMatchings 13 = .ok (.istore_n 3, 1) := by decide +kernel
theorem dX7_layMatchings_14 : decode cX7_layMatchings 14 = .ok (.aload_n 0, 1) := by decide +kernel
theorem dX7_layMatchings_15 : decode cX7_layMatchings 15 = .ok (.iconst (-1), 1) := by decide +kernel
theorem dX7_layMatchings_16 : decode cX7_layMatchings 16 = .ok (.putfield 165, 3) := by decide +kernel
theorem dX7_layMatchings_19 : decode cX7_layMatchings 19 = .ok (.iconst 0, 1) := by decide +kernel
theorem dX7_layMatchings_20 : decode cX7_layMatchings 20 = .ok (.istore 4, 2) := by decide +kernel
theorem dX7_layMatchings_22 : decode cX7_layMatchings 22 = .ok (.iconst 0, 1) := by decide +kernel
theorem dX7_layMatchings_23 : decode cX7_layMatchings 23 = .ok (.istore 5, 2) := by decide +kernel
theorem dX7_layMatchings_25 : decode cX7_layMatchings 25 = .ok (.iconst 0, 1) := by decide +kernel
theorem dX7_layMatchings_26 : decode cX7_layMatchings 26 = .ok (.istore 6, 2) := by decide +kernel
theorem dX7_layMatchings_28 : decode cX7_layMatchings 28 = .ok (.aload_n 0, 1) := by decide +kernel
theorem dX7_layMatchings_29 : decode cX7_layMatchings 29 = .ok (.getfield 42, 3) := by decide +kernel
theorem dX7_layMatchings_32 : decode cX7_layMatchings 32 = .ok (.iconst 0, 1) := by decide +kernel
theorem dX7_layMatchings_33 : decode cX7_layMatchings 33 = .ok (.iconst (-1), 1) := by decide +kernel
theorem dX7_layMatchings_34 : decode cX7_layMatchings 34 = .ok (.iastore, 1) := by decide +kernel
theorem dX7_layMatchings_35 : decode cX7_layMatchings 35 = .ok (.iload 4, 2) := by decide +kernel
theorem dX7_layMatchings_37 : decode cX7_layMatchings 37 = .ok (.ifCond .lt 197, 3) := by decide +kernel
theorem dX7_layMatchings_40 : decode cX7_layMatchings 40 = .ok (.iload 4, 2) := by decide +kernel
theorem dX7_layMatchings_42 : decode cX7_layMatchings 42 = .ok (.iload_n 2, 1) := by decide +kernel
theorem dX7_layMatchings_43 : decode cX7_layMatchings 43 = .ok (.if_icmp .ne 15, 3) := by decide +kernel
theorem dX7_layMatchings_46 : decode cX7_layMatchings 46 = .ok (.aload_n 0, 1) := by decide +kernel
theorem dX7_layMatchings_47 : decode cX7_layMatchings 47 = .ok (.iload 6, 2) := by decide +kernel
theorem dX7_layMatchings_49 : decode cX7_layMatchings 49 = .ok (.invokevirtual 168, 3) := by decide +kernel
theorem dX7_layMatchings_52 : decode cX7_layMatchings 52 = .ok (.iinc 4 (-1), 3) := by decide +kernel
theorem dX7_layMatchings_55 : decode cX7_layMatchings 55 = .ok (.goto (-20), 3) := by decide +kernel
theorem dX7_layMatchings_58 : decode cX7_layMatchings 58 = .ok (.aload_n 0, 1) := by decide +kernel
theorem dX7_layMatchings_59 : decode cX7_layMatchings 59 = .ok (.getfield 42, 3) := by decide +kernel
theorem dX7_layMatchings_62 : decode cX7_layMatchings 62 = .ok (.iload 4, 2) := by decide +kernel
theorem dX7_layMatchings_64 : decode cX7_layMatchings 64 = .ok (.iaload, 1) := by decide +kernel
theorem dX7_layMatchings_65 : decode cX7_layMatchings 65 = .ok (.istore 7, 2) := by decide +kernel
theorem dX7_layMatchings_67 : decode cX7_layMatchings 67 = .ok (.iload 7, 2) := by decide +kernel
theorem dX7_layMatchings_69 : decode cX7_layMatchings 69 = .ok (.i2l, 1) := by decide +kernel
theorem dX7_layMatchings_70 : decode cX7_layMatchings 70 = .ok (.lconst 0, 1) := by decide +kernel
theorem dX7_layMatchings_71 : decode cX7_layMatchings 71 = .ok (.iload_n 3, 1) := by decide +kernel
theorem dX7_layMatchings_72 : decode cX7_layMatchings 72 = .ok (.iconst 1, 1) := by decide +kernel
theorem dX7_layMatchings_73 : decode cX7_layMatchings 73 = .ok (.isub, 1) := by decide +kernel
theorem dX7_layMatchings_74 : decode cX7_layMatchings 74 = .ok (.i2l, 1) := by decide +kernel
theorem dX7_layMatchings_75 : decode cX7_layMatchings 75 = .ok (.invokestatic 66, 3) := by decide +kernel
theorem dX7_layMatchings_78 : decode cX7_layMatchings 78 = .ok (.ifCond .eq 37, 3) := by decide +kernel
theorem dX7_layMatchings_81 : decode cX7_layMatchings 81 = .ok (.iload 5, 2) := by decide +kernel
theorem dX7_layMatchings_83 : decode cX7_layMatchings 83 = .ok (.iconst 1, 1) := by decide +kernel
theorem dX7_layMatchings_84 : decode cX7_layMatchings 84 = .ok (.iload 7, 2) := by decide +kernel
theorem dX7_layMatchings_86 : decode cX7_layMatchings 86 = .ok (.ishl, 1) := by decide +kernel
theorem dX7_layMatchings_87 : decode cX7_layMatchings 87 = .ok (.iconst (-1), 1) := by decide +kernel
theorem dX7_layMatchings_88 : decode cX7_layMatchings 88 = .ok (.ixor, 1) := by decide +kernel
theorem dX7_layMatchings_89 : decode cX7_layMatchings 89 = .ok (.iand, 1) := by decide +kernel
theorem dX7_layMatchings_90 : decode cX7_layMatchings 90 = .ok (.istore 5, 2) := by decide +kernel
theorem dX7_layMatchings_92 : decode cX7_layMatchings 92 = .ok (.iload 6, 2) := by decide +kernel
theorem dX7_layMatchings_94 : decode cX7_layMatchings 94 = .ok (.iload_n 1, 1) := by decide +kernel
theorem dX7_layMatchings_95 : decode cX7_layMatchings 95 = .ok (.ifCond .eq 16, 3) := by decide +kernel
theorem dX7_layMatchings_98 : decode cX7_layMatchings 98 = .ok (.aload_n 0, 1) := by decide +kernel
theorem dX7_layMatchings_99 : decode cX7_layMatchings 99 = .ok (.getfield 22, 3) := by decide +kernel
theorem dX7_layMatchings_102 : decode cX7_layMatchings 102 = .ok (.bipush 52, 2) := by decide +kernel
theorem dX7_layMatchings_104 : decode cX7_layMatchings 104 = .ok (.iload 4, 2) := by decide +kernel
theorem dX7_layMatchings_106 : decode cX7_layMatchings 106 = .ok (.iadd, 1) := by decide +kernel
theorem dX7_layMatchings_107 : decode cX7_layMatchings 107 = .ok (.iaload, 1) := by decide +kernel
theorem dX7_layMatchings_108 : decode cX7_layMatchings 108 = .ok (.goto 4, 3) := by decide +kernel
theorem dX7_layMatchings_111 : decode cX7_layMatchings 111 = .ok (.iconst 1, 1) := by decide +kernel
theorem dX7_layMatchings_112 : decode cX7_layMatchings 112 = .ok (.isub, 1) := by decide +kernel
theorem dX7_layMatchings_113 : decode cX7_layMatchings 113 = .ok (.istore 6, 2) := by decide +kernel
theorem dX7_layMatchings_115 : decode cX7_layMatchings 115 = .ok (.iload 7, 2) := by decide +kernel
theorem dX7_layMatchings_117 : decode cX7_layMatchings 117 = .ok (.iconst 1, 1) := by decide +kernel
theorem dX7_layMatchings_118 : decode cX7_layMatchings 118 = .ok (.iadd, 1) := by decide +kernel
theorem dX7_layMatchings_119 : decode cX7_layMatchings 119 = .ok (.istore 8, 2) := by decide +kernel
theorem dX7_layMatchings_121 : decode cX7_layMatchings 121 = .ok (.iload 8, 2) := by decide +kernel
theorem dX7_layMatchings_123 : decode cX7_layMatchings 123 = .ok (.iload_n 3, 1) := by decide +kernel
theorem dX7_layMatchings_124 : decode cX7_layMatchings 124 = .ok (.if_icmp .ge 31, 3) := by decide +kernel
theorem dX7_layMatchings_127 : decode cX7_layMatchings 127 = .ok (.iload 5, 2) := by decide +kernel
theorem dX7_layMatchings_129 : decode cX7_layMatchings 129 = .ok (.iload 8, 2) := by decide +kernel
theorem dX7_layMatchings_131 : decode cX7_layMatchings 131 = .ok (.ishr, 1) := by decide +kernel
theorem dX7_layMatchings_132 : decode cX7_layMatchings 132 = .ok (.iconst 1, 1) := by decide +kernel
theorem dX7_layMatchings_133 : decode cX7_layMatchings 133 = .ok (.iand, 1) := by decide +kernel
theorem dX7_layMatchings_134 : decode cX7_layMatchings 134 = .ok (.iconst 1, 1) := by decide +kernel
theorem dX7_layMatchings_135 : decode cX7_layMatchings 135 = .ok (.if_icmp .eq 14, 3) := by decide +kernel
theorem dX7_layMatchings_138 : decode cX7_layMatchings 138 = .ok (.aload_n 0, 1) := by decide +kernel
theorem dX7_layMatchings_139 : decode cX7_layMatchings 139 = .ok (.iload 4, 2) := by decide +kernel
theorem dX7_layMatchings_141 : decode cX7_layMatchings 141 = .ok (.iload 8, 2) := by decide +kernel
theorem dX7_layMatchings_143 : decode cX7_layMatchings 143 = .ok (.invokevirtual 172, 3) := by decide +kernel
theorem dX7_layMatchings_146 : decode cX7_layMatchings 146 = .ok (.ifCond .ne 9, 3) := by decide +kernel
theorem dX7_layMatchings_149 : decode cX7_layMatchings 149 = .ok (.iinc 8 1, 3) := by decide +kernel
theorem dX7_layMatchings_152 : decode cX7_layMatchings 152 = .ok (.goto (-31), 3) := by decide +kernel
theorem dX7_layMatchings_155 : decode cX7_layMatchings 155 = .ok (.aload_n 0, 1) := by decide +kernel
theorem dX7_layMatchings_156 : decode cX7_layMatchings 156 = .ok (.getfield 42, 3) := by decide +kernel
theorem dX7_layMatchings_159 : decode cX7_layMatchings 159 = .ok (.iload 4, 2) := by decide +kernel
theorem dX7_layMatchings_161 : decode cX7_layMatchings 161 = .ok (.iload 8, 2) := by decide +kernel
theorem dX7_layMatchings_163 : decode cX7_layMatchings 163 = .ok (.iastore, 1) := by decide +kernel
theorem dX7_layMatchings_164 : decode cX7_layMatchings 164 = .ok (.iload 8, 2) := by decide +kernel
theorem dX7_layMatchings_166 : decode cX7_layMatchings 166 = .ok (.iload_n 3, 1) := by decide +kernel
theorem dX7_layMatchings_167 : decode cX7_layMatchings 167 = .ok (.if_icmp .le 9, 3) := by decide +kernel
theorem dX7_layMatchings_170 : decode cX7_layMatchings 170 = .ok (.iinc 4 (-1), 3) := by decide +kernel
theorem dX7_layMatchings_173 : decode cX7_layMatchings 173 = .ok (.goto (-138), 3) := by decide +kernel
theorem dX7_layMatchings_176 : decode cX7_layMatchings 176 = .ok (.iload 8, 2) := by decide +kernel
theorem dX7_layMatchings_178 : decode cX7_layMatchings 178 = .ok (.iload_n 3, 1) := by decide +kernel
theorem dX7_layMatchings_179 : decode cX7_layMatchings 179 = .ok (.if_icmp .ge 35, 3) := by decide +kernel
theorem dX7_layMatchings_182 : decode cX7_layMatchings 182 = .ok (.iload 5, 2) := by decide +kernel
theorem dX7_layMatchings_184 : decode cX7_layMatchings 184 = .ok (.iconst 1, 1) := by decide +kernel
theorem dX7_layMatchings_185 : decode cX7_layMatchings 185 = .ok (.iload 8, 2) := by decide +kernel
theorem dX7_layMatchings_187 : decode cX7_layMatchings 187 = .ok (.ishl, 1) := by decide +kernel
theorem dX7_layMatchings_188 : decode cX7_layMatchings 188 = .ok (.ior, 1) := by decide +kernel
theorem dX7_layMatchings_189 : decode cX7_layMatchings 189 = .ok (.istore 5, 2) := by decide +kernel
theorem dX7_layMatchings_191 : decode cX7_layMatchings 191 = .ok (.iload 6, 2) := by decide +kernel
theorem dX7_layMatchings_193 : decode cX7_layMatchings 193 = .ok (.iload_n 1, 1) := by decide +kernel
theorem dX7_layMatchings_194 : decode cX7_layMatchings 194 = .ok (.ifCond .eq 16, 3) := by decide +kernel
theorem dX7_layMatchings_197 : decode cX7_layMatchings 197 = .ok (.aload_n 0, 1) := by decide +kernel
theorem dX7_layMatchings_198 : decode cX7_layMatchings 198 = .ok (.getfield 22, 3) := by decide +kernel
theorem dX7_layMatchings_201 : decode cX7_layMatchings 201 = .ok (.bipush 52, 2) := by decide +kernel
theorem dX7_layMatchings_203 : decode cX7_layMatchings 203 = .ok (.iload 4, 2) := by decide +kernel
theorem dX7_layMatchings_205 : decode cX7_layMatchings 205 = .ok (.iadd, 1) := by decide +kernel
theorem dX7_layMatchings_206 : decode cX7_layMatchings 206 = .ok (.iaload, 1) := by decide +kernel
theorem dX7_layMatchings_207 : decode cX7_layMatchings 207 = .ok (.goto 4, 3) := by decide +kernel
theorem dX7_layMatchings_210 : decode cX7_layMatchings 210 = .ok (.iconst 1, 1) := by decide +kernel
theorem dX7_layMatchings_211 : decode cX7_layMatchings 211 = .ok (.iadd, 1) := by decide +kernel
theorem dX7_layMatchings_212 : decode cX7_layMatchings 212 = .ok (.istore 6, 2) := by decide +kernel
theorem dX7_layMatchings_214 : decode cX7_layMatchings 214 = .ok (.iinc 4 1, 3) := by decide +kernel
theorem dX7_layMatchings_217 : decode cX7_layMatchings 217 = .ok (.iload 4, 2) := by decide +kernel
theorem dX7_layMatchings_219 : decode cX7_layMatchings 219 = .ok (.iload_n 2, 1) := by decide +kernel
theorem dX7_layMatchings_220 : decode cX7_layMatchings 220 = .ok (.if_icmp .ge 11, 3) := by decide +kernel
theorem dX7_layMatchings_223 : decode cX7_layMatchings 223 = .ok (.aload_n 0, 1) := by decide +kernel
theorem dX7_layMatchings_224 : decode cX7_layMatchings 224 = .ok (.getfield 42, 3) := by decide +kernel
theorem dX7_layMatchings_227 : decode cX7_layMatchings 227 = .ok (.iload 4, 2) := by decide +kernel
theorem dX7_layMatchings_229 : decode cX7_layMatchings 229 = .ok (.iconst (-1), 1) := by decide +kernel
theorem dX7_layMatchings_230 : decode cX7_layMatchings 230 = .ok (.iastore, 1) := by decide +kernel
theorem dX7_layMatchings_231 : decode cX7_layMatchings 231 = .ok (.goto (-196), 3) := by decide +kernel
theorem dX7_layMatchings_234 : decode cX7_layMatchings 234 = .ok (.return_, 1) := by decide +kernel
def F_X7_layMatchings_L121 (n : Nat) (a0 : Nat) (v13 : Int32) (l35_4 : Int32) (l35S : aSt) (j115_5 : Int32) (K155 : Int32 → Option aSt) : Nat → Int32 → Option aSt
  | 0, _ => none
  | fu + 1, l121_8 =>
    if v13 ≤ l121_8 then (K155 l121_8) else
    jn ((F_X7_layMatchings_L121 n a0 v13 l35_4 l35S j115_5 K155 fu (l121_8 + (1 : Int32)) : Option aSt)) fun K149 =>
    if ((j115_5 >>> (l121_8 &&& 31)) &&& (1 : Int32)) = (1 : Int32) then (K149) else
    (F_X7_mayMatch n l35S a0 l35_4 l121_8).bind fun r143 =>
    if r143 = 0 then (K149) else
    K155 l121_8
def F_X7_layMatchings_L35 (n : Nat) (a0 : Nat) (a1 : Int32) (v6 : Int32) (v13 : Int32) (K234 : aSt → Option aSt) : Nat → Int32 → Int32 → Int32 → aSt → Option aSt
  | 0, _, _, _, _ => none
  | fu + 1, l35_4, l35_5, l35_6, l35S =>
    if l35_4 < 0 then (K234 l35S) else
    if l35_4 = v6 then ((F_X7_counts n l35S a0 l35_6).bind fun S49 =>
    F_X7_layMatchings_L35 n a0 a1 v6 v13 K234 fu (l35_4 + (-1 : Int32)) l35_5 l35_6 S49) else
    rfd (l35S.2.2 a0 14) 7 fun k59 =>
    grd (inb l35_4 (SH k59).2) <|
    nm (l35S.1 k59 l35_4.toNatClampNeg) fun v65 =>
    (F_X7_in n l35S v65.toInt64 (0 : Int64) (v13 - (1 : Int32)).toInt64).bind fun r75 =>
    jn (fun (j115_5 : Int32) (j115_6 : Int32) => (nm (v65 + (1 : Int32)) fun v119 =>
    jn (fun (x155_8 : Int32) => (grd (inb l35_4 (SH k59).2) <|
    nm (stI l35S k59 l35_4.toNatClampNeg x155_8) fun S163 =>
    if x155_8 ≤ v13 then (jn (fun (j214_5 : Int32) (j214_6 : Int32) => (jn (fun (j231S : aSt) => (F_X7_layMatchings_L35 n a0 a1 v6 v13 K234 fu (l35_4 + (1 : Int32)) j214_5 j214_6 j231S : Option aSt)) fun K231 =>
    if v6 ≤ (l35_4 + (1 : Int32)) then (K231 S163) else
    rfd (S163.2.2 a0 14) 7 fun k224 =>
    grd (inb (l35_4 + (1 : Int32)) (SH k224).2) <|
    nm (stI S163 k224 (l35_4 + (1 : Int32)).toNatClampNeg (-1 : Int32)) fun S230 =>
    K231 S230 : Option aSt)) fun K214 =>
    if v13 ≤ x155_8 then (K214 j115_5 j115_6) else
    nm (j115_5 ||| ((1 : Int32) <<< (x155_8 &&& 31))) fun v189 =>
    jn (fun (j211s1 : Int32) => (nm (j115_6 + j211s1) fun v212 =>
    K214 v189 v212 : Option aSt)) fun K211 =>
    if a1 = 0 then (K211 (1 : Int32)) else
    rfd (S163.2.2 a0 4) 7 fun k198 =>
    grd (inb ((52 : Int32) + l35_4) (SH k198).2) <|
    K211 (S163.1 k198 ((52 : Int32) + l35_4).toNatClampNeg)) else
    F_X7_layMatchings_L35 n a0 a1 v6 v13 K234 fu (l35_4 + (-1 : Int32)) j115_5 j115_6 S163 : Option aSt)) fun K155 =>
    F_X7_layMatchings_L121 n a0 v13 l35_4 l35S j115_5 K155 n v119 : Option aSt)) fun K115 =>
    if r75 = 0 then (K115 l35_5 l35_6) else
    nm (l35_5 &&& (((1 : Int32) <<< (v65 &&& 31)) ^^^ (-1 : Int32))) fun v90 =>
    jn (fun (j112s1 : Int32) => (nm (l35_6 - j112s1) fun v113 =>
    K115 v90 v113 : Option aSt)) fun K112 =>
    if a1 = 0 then (K112 (1 : Int32)) else
    rfd (l35S.2.2 a0 4) 7 fun k99 =>
    grd (inb ((52 : Int32) + l35_4) (SH k99).2) <|
    K112 (l35S.1 k99 ((52 : Int32) + l35_4).toNatClampNeg)
def F_X7_layMatchings (n : Nat) (S : aSt) (a0 : Nat) (a1 : Int32) : Option aSt :=
rfd (S.2.2 a0 4) 7 fun k1 =>
grd (inb (1 : Int32) (SH k1).2) <|
nm (S.1 k1 (1 : Int32).toNatClampNeg) fun v6 =>
grd (inb (0 : Int32) (SH k1).2) <|
nm (S.1 k1 (0 : Int32).toNatClampNeg) fun v13 =>
nm (stI S a0 18 (-1 : Int32)) fun S16 =>
rfd (S16.2.2 a0 14) 7 fun k29 =>
grd (inb (0 : Int32) (SH k29).2) <|
nm (stI S16 k29 (0 : Int32).toNatClampNeg (-1 : Int32)) fun S34 =>
jn (fun (x234S : aSt) => (some x234S : Option aSt)) fun K234 =>
F_X7_layMatchings_L35 n a0 a1 v6 v13 K234 n (0 : Int32) (0 : Int32) (0 : Int32) S34
set_option maxHeartbeats 4000000 in
set_option maxRecDepth 100000 in
theorem C_X7_layMatchings (G : aG) (l : Launch) (n : Nat) (S : aSt) (a0 : Nat) (a1 : Int32) (Sr : aSt) (ha0 : isT a0 6 = true) (hf : F_X7_layMatchings n S a0 a1 = some Sr) : Ctr G l yX7_layMatchings mX7_layMatchings (rmM 5) 97 97 S [.ref a0, .int a1] none Sr := by
  refine Ctr.of (by decide) rfl rfl (Nat.le_of_ble_eq_true rfl) [(0, .ref a0), (1, .int a1)] rfl ?_
  unfold F_X7_layMatchings at hf
  refine Go.aload_n 0 1 rfl dX7_layMatchings_0 rfl ?_
  obtain ⟨k1, qk1, hk1, hf⟩ := f_rfd hf
  refine Go.getR 4 rfl dX7_layMatchings_1 fl_X7_22 rfl (isT_lt ha0) (isT_sh ha0) qk1 ?_
  refine Go.iconst (1 : Int32) 5 rfl dX7_layMatchings_4 ci_1 ?_
  obtain ⟨g5, hf⟩ := f_grd hf
  refine Go.iald 6 rfl dX7_layMatchings_5 (isT_lt hk1) (isT_sh hk1) g5 ?_
  obtain ⟨v6, ev6, hf⟩ := f_nm hf
  refine Go.topi v6 ev6 ?_
  refine Go.istore_n 7 [(2, .int v6), (0, .ref a0), (1, .int a1)] rfl dX7_layMatchings_6 (by decide) rfl ?_
  refine Go.aload_n 1 8 rfl dX7_layMatchings_7 rfl ?_
  refine Go.getR 11 rfl dX7_layMatchings_8 fl_X7_22 rfl (isT_lt ha0) (isT_sh ha0) qk1 ?_
  refine Go.iconst (0 : Int32) 12 rfl dX7_layMatchings_11 ci_0 ?_
  obtain ⟨g12, hf⟩ := f_grd hf
  refine Go.iald 13 rfl dX7_layMatchings_12 (isT_lt hk1) (isT_sh hk1) g12 ?_
  obtain ⟨v13, ev13, hf⟩ := f_nm hf
  refine Go.topi v13 ev13 ?_
  refine Go.istore_n 14 [(3, .int v13), (2, .int v6), (0, .ref a0), (1, .int a1)] rfl dX7_layMatchings_13 (by decide) rfl ?_
  refine Go.aload_n 2 15 rfl dX7_layMatchings_14 rfl ?_
  refine Go.iconst (-1 : Int32) 16 rfl dX7_layMatchings_15 ci_m1 ?_
  obtain ⟨S16, eS16, hf⟩ := f_nm hf
  refine Go.putI 19 rfl dX7_layMatchings_16 fp_X7_165 rfl (isT_lt ha0) (isT_sh ha0) (fun h => by cases h) (Go.stt S16 eS16 ?_)
  refine Go.iconst (0 : Int32) 20 rfl dX7_layMatchings_19 ci_0 ?_
  refine Go.istore 22 [(4, .int (0 : Int32)), (3, .int v13), (2, .int v6), (0, .ref a0), (1, .int a1)] rfl dX7_layMatchings_20 (by decide) rfl ?_
  refine Go.iconst (0 : Int32) 23 rfl dX7_layMatchings_22 ci_0 ?_
  refine Go.istore 25 [(5, .int (0 : Int32)), (4, .int (0 : Int32)), (3, .int v13), (2, .int v6), (0, .ref a0), (1, .int a1)] rfl dX7_layMatchings_23 (by decide) rfl ?_
  refine Go.iconst (0 : Int32) 26 rfl dX7_layMatchings_25 ci_0 ?_
  refine Go.istore 28 [(6, .int (0 : Int32)), (5, .int (0 : Int32)), (4, .int (0 : Int32)), (3, .int v13), (2, .int v6), (0, .ref a0), (1, .int a1)] rfl dX7_layMatchings_26 (by decide) rfl ?_
  refine Go.aload_n 5 29 rfl dX7_layMatchings_28 rfl ?_
  obtain ⟨k29, qk29, hk29, hf⟩ := f_rfd hf
  refine Go.getR 32 rfl dX7_layMatchings_29 fl_X7_42 rfl (isT_lt ha0) (isT_sh ha0) qk29 ?_
  refine Go.iconst (0 : Int32) 33 rfl dX7_layMatchings_32 ci_0 ?_
  refine Go.iconst (-1 : Int32) 34 rfl dX7_layMatchings_33 ci_m1 ?_
  obtain ⟨g34, hf⟩ := f_grd hf
  obtain ⟨S34, eS34, hf⟩ := f_nm hf
  refine Go.iast 35 rfl dX7_layMatchings_34 (isT_lt hk29) (isT_sh hk29) g34 (Go.stt S34 eS34 ?_)
  obtain ⟨K234, eK234, hf⟩ := f_jn hf
  have J234 : ∀ (x234S : aSt), K234 x234S = some Sr → GoM G l 5 (TmR G none 97 Sr 0 0) mX7_layMatchings 234 [] [] x234S := by
    intro x234S hf
    rw [eK234] at hf
    exact Go.vr rfl dX7_layMatchings_234 hf
  clear eK234
  have L35 : ∀ (fu : Nat) (l35_4 : Int32) (l35_5 : Int32) (l35_6 : Int32) (l35S : aSt), F_X7_layMatchings_L35 n a0 a1 v6 v13 K234 fu l35_4 l35_5 l35_6 l35S = some Sr → GoM G l 5 (TmR G none 97 Sr 0 0) mX7_layMatchings 35 [(0, .ref a0), (1, .int a1), (2, .int v6), (3, .int v13), (4, .int l35_4), (5, .int l35_5), (6, .int l35_6)] [] l35S := by
    intro fu
    induction fu with
    | zero => intro l35_4 l35_5 l35_6 l35S hf; rw [F_X7_layMatchings_L35] at hf; cases hf
    | succ fu ih =>
      intro l35_4 l35_5 l35_6 l35S hf
      rw [F_X7_layMatchings_L35] at hf
      refine Go.iload 4 37 rfl dX7_layMatchings_35 rfl ?_
      refine Go.if_lt 234 40 rfl dX7_layMatchings_37 rfl (fun hc => ?_) (fun hc => ?_)
      · replace hf := f_if hf hc
        exact Go.sub [] [] rfl (J234 l35S hf)
      · replace hf := f_el hf hc
        refine Go.iload 4 42 rfl dX7_layMatchings_40 rfl ?_
        refine Go.iload_n 2 43 rfl dX7_layMatchings_42 rfl ?_
        refine Go.icmp_ne 58 46 rfl dX7_layMatchings_43 rfl (fun hc => ?_) (fun hc => ?_)
        · replace hf := f_el hf hc
          refine Go.aload_n 0 59 rfl dX7_layMatchings_58 rfl ?_
          obtain ⟨k59, qk59, hk59, hf⟩ := f_rfd hf
          refine Go.getR 62 rfl dX7_layMatchings_59 fl_X7_42 rfl (isT_lt ha0) (isT_sh ha0) qk59 ?_
          refine Go.iload 4 64 rfl dX7_layMatchings_62 rfl ?_
          obtain ⟨g64, hf⟩ := f_grd hf
          refine Go.iald 65 rfl dX7_layMatchings_64 (isT_lt hk59) (isT_sh hk59) g64 ?_
          obtain ⟨v65, ev65, hf⟩ := f_nm hf
          refine Go.topi v65 ev65 ?_
          refine Go.istore 67 [(7, .int v65), (0, .ref a0), (1, .int a1), (2, .int v6), (3, .int v13), (4, .int l35_4), (5, .int l35_5), (6, .int l35_6)] rfl dX7_layMatchings_65 (by decide) rfl ?_
          refine Go.iload 0 69 rfl dX7_layMatchings_67 rfl ?_
          refine Go.i2l 70 rfl dX7_layMatchings_69 ?_
          refine Go.lconst (0 : Int64) 71 rfl dX7_layMatchings_70 cl_0 ?_
          refine Go.iload_n 4 72 rfl dX7_layMatchings_71 rfl ?_
          refine Go.iconst (1 : Int32) 73 rfl dX7_layMatchings_72 ci_1 ?_
          refine Go.isub 74 rfl dX7_layMatchings_73 ?_
          refine Go.i2l 75 rfl dX7_layMatchings_74 ?_
          obtain ⟨r75, er75, hf⟩ := f_bnd hf
          refine Go.cS 78 [.long v65.toInt64, .long (0 : Int64), .long (v13 - (1 : Int32)).toInt64] [] (C_X7_in G l n l35S v65.toInt64 (0 : Int64) (v13 - (1 : Int32)).toInt64 r75  er75) rfl dX7_layMatchings_75 cx_X7_66 (by decide) (by decide) rfl (Nat.le_of_ble_eq_true rfl) ?_
          obtain ⟨K115, eK115, hf⟩ := f_jn hf
          have J115 : ∀ (j115_5 : Int32) (j115_6 : Int32), K115 j115_5 j115_6 = some Sr → GoM G l 5 (TmR G none 97 Sr 0 0) mX7_layMatchings 115 [(0, .ref a0), (1, .int a1), (2, .int v6), (3, .int v13), (4, .int l35_4), (5, .int j115_5), (6, .int j115_6), (7, .int v65)] [] l35S := by
            intro j115_5 j115_6 hf
            rw [eK115] at hf
            refine Go.iload 7 117 rfl dX7_layMatchings_115 rfl ?_
            refine Go.iconst (1 : Int32) 118 rfl dX7_layMatchings_117 ci_1 ?_
            refine Go.iadd 119 rfl dX7_layMatchings_118 ?_
            obtain ⟨v119, ev119, hf⟩ := f_nm hf
            refine Go.topi v119 ev119 ?_
            refine Go.istore 121 [(8, .int v119), (0, .ref a0), (1, .int a1), (2, .int v6), (3, .int v13), (4, .int l35_4), (5, .int j115_5), (6, .int j115_6), (7, .int v65)] rfl dX7_layMatchings_119 (by decide) rfl ?_
            obtain ⟨K155, eK155, hf⟩ := f_jn hf
            have J155 : ∀ (x155_8 : Int32), K155 x155_8 = some Sr → GoM G l 5 (TmR G none 97 Sr 0 0) mX7_layMatchings 155 [(0, .ref a0), (1, .int a1), (2, .int v6), (3, .int v13), (4, .int l35_4), (5, .int j115_5), (6, .int j115_6), (8, .int x155_8)] [] l35S := by
              intro x155_8 hf
              rw [eK155] at hf
              refine Go.aload_n 0 156 rfl dX7_layMatchings_155 rfl ?_
              refine Go.getR 159 rfl dX7_layMatchings_156 fl_X7_42 rfl (isT_lt ha0) (isT_sh ha0) qk59 ?_
              refine Go.iload 4 161 rfl dX7_layMatchings_159 rfl ?_
              refine Go.iload 7 163 rfl dX7_layMatchings_161 rfl ?_
              obtain ⟨g163, hf⟩ := f_grd hf
              obtain ⟨S163, eS163, hf⟩ := f_nm hf
              refine Go.iast 164 rfl dX7_layMatchings_163 (isT_lt hk59) (isT_sh hk59) g163 (Go.stt S163 eS163 ?_)
              refine Go.iload 7 166 rfl dX7_layMatchings_164 rfl ?_
              refine Go.iload_n 3 167 rfl dX7_layMatchings_166 rfl ?_
              refine Go.icmp_le 176 170 rfl dX7_layMatchings_167 rfl (fun hc => ?_) (fun hc => ?_)
              · replace hf := f_if hf hc
                refine Go.iload 7 178 rfl dX7_layMatchings_176 rfl ?_
                refine Go.iload_n 3 179 rfl dX7_layMatchings_178 rfl ?_
                obtain ⟨K214, eK214, hf⟩ := f_jn hf
                have J214 : ∀ (j214_5 : Int32) (j214_6 : Int32), K214 j214_5 j214_6 = some Sr → GoM G l 5 (TmR G none 97 Sr 0 0) mX7_layMatchings 214 [(0, .ref a0), (1, .int a1), (2, .int v6), (3, .int v13), (4, .int l35_4), (5, .int j214_5), (6, .int j214_6)] [] S163 := by
                  intro j214_5 j214_6 hf
                  rw [eK214] at hf
                  refine Go.inc 4 217 (1 : Int32) [(4, .int (l35_4 + (1 : Int32))), (0, .ref a0), (1, .int a1), (2, .int v6), (3, .int v13), (5, .int j214_5), (6, .int j214_6)] rfl dX7_layMatchings_214 rfl ci_1 (by decide) rfl ?_
                  refine Go.iload 0 219 rfl dX7_layMatchings_217 rfl ?_
                  refine Go.iload_n 3 220 rfl dX7_layMatchings_219 rfl ?_
                  obtain ⟨K231, eK231, hf⟩ := f_jn hf
                  have J231 : ∀ (j231S : aSt), K231 j231S = some Sr → GoM G l 5 (TmR G none 97 Sr 0 0) mX7_layMatchings 231 [(0, .ref a0), (1, .int a1), (2, .int v6), (3, .int v13), (4, .int (l35_4 + (1 : Int32))), (5, .int j214_5), (6, .int j214_6)] [] j231S := by
                    intro j231S hf
                    rw [eK231] at hf
                    refine Go.goto 35 dX7_layMatchings_231 rfl ?_
                    exact ih (l35_4 + (1 : Int32)) j214_5 j214_6 j231S hf
                  clear eK231
                  refine Go.icmp_ge 231 223 rfl dX7_layMatchings_220 rfl (fun hc => ?_) (fun hc => ?_)
                  · replace hf := f_if hf hc
                    exact Go.sub [1, 2, 3, 4, 0, 5, 6] [(0, .ref a0), (1, .int a1), (2, .int v6), (3, .int v13), (4, .int (l35_4 + (1 : Int32))), (5, .int j214_5), (6, .int j214_6)] rfl (J231 S163 hf)
                  · replace hf := f_el hf hc
                    refine Go.aload_n 1 224 rfl dX7_layMatchings_223 rfl ?_
                    obtain ⟨k224, qk224, hk224, hf⟩ := f_rfd hf
                    refine Go.getR 227 rfl dX7_layMatchings_224 fl_X7_42 rfl (isT_lt ha0) (isT_sh ha0) qk224 ?_
                    refine Go.iload 0 229 rfl dX7_layMatchings_227 rfl ?_
                    refine Go.iconst (-1 : Int32) 230 rfl dX7_layMatchings_229 ci_m1 ?_
                    obtain ⟨g230, hf⟩ := f_grd hf
                    obtain ⟨S230, eS230, hf⟩ := f_nm hf
                    refine Go.iast 231 rfl dX7_layMatchings_230 (isT_lt hk224) (isT_sh hk224) g230 (Go.stt S230 eS230 ?_)
                    exact Go.sub [1, 2, 3, 4, 0, 5, 6] [(0, .ref a0), (1, .int a1), (2, .int v6), (3, .int v13), (4, .int (l35_4 + (1 : Int32))), (5, .int j214_5), (6, .int j214_6)] rfl (J231 S230 hf)
                clear eK214
                refine Go.icmp_ge 214 182 rfl dX7_layMatchings_179 rfl (fun hc => ?_) (fun hc => ?_)
                · replace hf := f_if hf hc
                  exact Go.sub [0, 1, 2, 3, 4, 5, 6] [(0, .ref a0), (1, .int a1), (2, .int v6), (3, .int v13), (4, .int l35_4), (5, .int j115_5), (6, .int j115_6)] rfl (J214 j115_5 j115_6 hf)
                · replace hf := f_el hf hc
                  refine Go.iload 5 184 rfl dX7_layMatchings_182 rfl ?_
                  refine Go.iconst (1 : Int32) 185 rfl dX7_layMatchings_184 ci_1 ?_
                  refine Go.iload 7 187 rfl dX7_layMatchings_185 rfl ?_
                  refine Go.ishl 188 rfl dX7_layMatchings_187 ?_
                  refine Go.ior 189 rfl dX7_layMatchings_188 ?_
                  obtain ⟨v189, ev189, hf⟩ := f_nm hf
                  refine Go.topi v189 ev189 ?_
                  refine Go.istore 191 [(5, .int v189), (0, .ref a0), (1, .int a1), (2, .int v6), (3, .int v13), (4, .int l35_4), (6, .int j115_6), (8, .int x155_8)] rfl dX7_layMatchings_189 (by decide) rfl ?_
                  refine Go.iload 6 193 rfl dX7_layMatchings_191 rfl ?_
                  refine Go.iload_n 2 194 rfl dX7_layMatchings_193 rfl ?_
                  obtain ⟨K211, eK211, hf⟩ := f_jn hf
                  have J211 : ∀ (j211s1 : Int32), K211 j211s1 = some Sr → GoM G l 5 (TmR G none 97 Sr 0 0) mX7_layMatchings 211 [(0, .ref a0), (1, .int a1), (2, .int v6), (3, .int v13), (4, .int l35_4), (5, .int v189)] [.int j211s1, .int j115_6] S163 := by
                    intro j211s1 hf
                    rw [eK211] at hf
                    refine Go.iadd 212 rfl dX7_layMatchings_211 ?_
                    obtain ⟨v212, ev212, hf⟩ := f_nm hf
                    refine Go.topi v212 ev212 ?_
                    refine Go.istore 214 [(6, .int v212), (0, .ref a0), (1, .int a1), (2, .int v6), (3, .int v13), (4, .int l35_4), (5, .int v189)] rfl dX7_layMatchings_212 (by decide) rfl ?_
                    exact Go.sub [1, 2, 3, 4, 5, 6, 0] [(0, .ref a0), (1, .int a1), (2, .int v6), (3, .int v13), (4, .int l35_4), (5, .int v189), (6, .int v212)] rfl (J214 v189 v212 hf)
                  clear eK211
                  refine Go.if_eq 210 197 rfl dX7_layMatchings_194 rfl (fun hc => ?_) (fun hc => ?_)
                  · replace hf := f_if hf hc
                    refine Go.iconst (1 : Int32) 211 rfl dX7_layMatchings_210 ci_1 ?_
                    exact Go.sub [1, 2, 3, 4, 5, 0] [(0, .ref a0), (1, .int a1), (2, .int v6), (3, .int v13), (4, .int l35_4), (5, .int v189)] rfl (J211 (1 : Int32) hf)
                  · replace hf := f_el hf hc
                    refine Go.aload_n 1 198 rfl dX7_layMatchings_197 rfl ?_
                    obtain ⟨k198, qk198, hk198, hf⟩ := f_rfd hf
                    refine Go.getR 201 rfl dX7_layMatchings_198 fl_X7_22 rfl (isT_lt ha0) (isT_sh ha0) qk198 ?_
                    refine Go.bipush (52 : Int32) 203 rfl dX7_layMatchings_201 cb_52 ?_
                    refine Go.iload 5 205 rfl dX7_layMatchings_203 rfl ?_
                    refine Go.iadd 206 rfl dX7_layMatchings_205 ?_
                    obtain ⟨g206, hf⟩ := f_grd hf
                    refine Go.iald 207 rfl dX7_layMatchings_206 (isT_lt hk198) (isT_sh hk198) g206 ?_
                    refine Go.goto 211 dX7_layMatchings_207 rfl ?_
                    exact Go.sub [1, 2, 3, 4, 5, 0] [(0, .ref a0), (1, .int a1), (2, .int v6), (3, .int v13), (4, .int l35_4), (5, .int v189)] rfl (J211 (S163.1 k198 ((52 : Int32) + l35_4).toNatClampNeg) hf)
              · replace hf := f_el hf hc
                refine Go.inc 4 173 (-1 : Int32) [(4, .int (l35_4 + (-1 : Int32))), (0, .ref a0), (1, .int a1), (2, .int v6), (3, .int v13), (5, .int j115_5), (6, .int j115_6), (8, .int x155_8)] rfl dX7_layMatchings_170 rfl ci_m1 (by decide) rfl ?_
                refine Go.goto 35 dX7_layMatchings_173 rfl ?_
                exact Go.sub [1, 2, 3, 4, 0, 5, 6] [(0, .ref a0), (1, .int a1), (2, .int v6), (3, .int v13), (4, .int (l35_4 + (-1 : Int32))), (5, .int j115_5), (6, .int j115_6)] rfl (ih (l35_4 + (-1 : Int32)) j115_5 j115_6 S163 hf)
            clear eK155
            have L121 : ∀ (fu : Nat) (l121_8 : Int32), F_X7_layMatchings_L121 n a0 v13 l35_4 l35S j115_5 K155 fu l121_8 = some Sr → GoM G l 5 (TmR G none 97 Sr 0 0) mX7_layMatchings 121 [(0, .ref a0), (1, .int a1), (2, .int v6), (3, .int v13), (4, .int l35_4), (5, .int j115_5), (6, .int j115_6), (8, .int l121_8)] [] l35S := by
              intro fu
              induction fu with
              | zero => intro l121_8 hf; rw [F_X7_layMatchings_L121] at hf; cases hf
              | succ fu ih =>
                intro l121_8 hf
                rw [F_X7_layMatchings_L121] at hf
                refine Go.iload 7 123 rfl dX7_layMatchings_121 rfl ?_
                refine Go.iload_n 3 124 rfl dX7_layMatchings_123 rfl ?_
                refine Go.icmp_ge 155 127 rfl dX7_layMatchings_124 rfl (fun hc => ?_) (fun hc => ?_)
                · replace hf := f_if hf hc
                  exact J155 l121_8 hf
                · replace hf := f_el hf hc
                  refine Go.iload 5 129 rfl dX7_layMatchings_127 rfl ?_
                  refine Go.iload 7 131 rfl dX7_layMatchings_129 rfl ?_
                  refine Go.ishr 132 rfl dX7_layMatchings_131 ?_
                  refine Go.iconst (1 : Int32) 133 rfl dX7_layMatchings_132 ci_1 ?_
                  refine Go.iand 134 rfl dX7_layMatchings_133 ?_
                  refine Go.iconst (1 : Int32) 135 rfl dX7_layMatchings_134 ci_1 ?_
                  obtain ⟨K149, eK149, hf⟩ := f_jn hf
                  have J149 : K149 = some Sr → GoM G l 5 (TmR G none 97 Sr 0 0) mX7_layMatchings 149 [(0, .ref a0), (1, .int a1), (2, .int v6), (3, .int v13), (4, .int l35_4), (5, .int j115_5), (6, .int j115_6), (8, .int l121_8)] [] l35S := by
                    intro hf
                    rw [eK149] at hf
                    refine Go.inc 7 152 (1 : Int32) [(8, .int (l121_8 + (1 : Int32))), (0, .ref a0), (1, .int a1), (2, .int v6), (3, .int v13), (4, .int l35_4), (5, .int j115_5), (6, .int j115_6)] rfl dX7_layMatchings_149 rfl ci_1 (by decide) rfl ?_
                    refine Go.goto 121 dX7_layMatchings_152 rfl ?_
                    exact Go.sub [1, 2, 3, 4, 5, 6, 7, 0] [(0, .ref a0), (1, .int a1), (2, .int v6), (3, .int v13), (4, .int l35_4), (5, .int j115_5), (6, .int j115_6), (8, .int (l121_8 + (1 : Int32)))] rfl (ih (l121_8 + (1 : Int32)) hf)
                  clear eK149
                  refine Go.icmp_eq 149 138 rfl dX7_layMatchings_135 rfl (fun hc => ?_) (fun hc => ?_)
                  · replace hf := f_if hf hc
                    exact J149 hf
                  · replace hf := f_el hf hc
                    refine Go.aload_n 0 139 rfl dX7_layMatchings_138 rfl ?_
                    refine Go.iload 4 141 rfl dX7_layMatchings_139 rfl ?_
                    refine Go.iload 7 143 rfl dX7_layMatchings_141 rfl ?_
                    obtain ⟨r143, er143, hf⟩ := f_bnd hf
                    refine Go.cV 146 [.int l35_4, .int l121_8] [] (C_X7_mayMatch G l n l35S a0 l35_4 l121_8 r143 ha0 er143) rfl dX7_layMatchings_143 cv_X7_172 ha0 (by decide) (by decide) rfl (Nat.le_of_ble_eq_true rfl) ?_
                    refine Go.if_ne 155 149 rfl dX7_layMatchings_146 rfl (fun hc => ?_) (fun hc => ?_)
                    · replace hf := f_el hf hc
                      exact J155 l121_8 hf
                    · replace hf := f_if hf hc
                      exact J149 hf
            exact Go.sub [1, 2, 3, 4, 5, 6, 7, 0] [(0, .ref a0), (1, .int a1), (2, .int v6), (3, .int v13), (4, .int l35_4), (5, .int j115_5), (6, .int j115_6), (8, .int v119)] rfl (L121 n v119 hf)
          clear eK115
          refine Go.if_eq 115 81 rfl dX7_layMatchings_78 rfl (fun hc => ?_) (fun hc => ?_)
          · replace hf := f_if hf hc
            exact Go.sub [1, 2, 3, 4, 5, 6, 7, 0] [(0, .ref a0), (1, .int a1), (2, .int v6), (3, .int v13), (4, .int l35_4), (5, .int l35_5), (6, .int l35_6), (7, .int v65)] rfl (J115 l35_5 l35_6 hf)
          · replace hf := f_el hf hc
            refine Go.iload 6 83 rfl dX7_layMatchings_81 rfl ?_
            refine Go.iconst (1 : Int32) 84 rfl dX7_layMatchings_83 ci_1 ?_
            refine Go.iload 0 86 rfl dX7_layMatchings_84 rfl ?_
            refine Go.ishl 87 rfl dX7_layMatchings_86 ?_
            refine Go.iconst (-1 : Int32) 88 rfl dX7_layMatchings_87 ci_m1 ?_
            refine Go.ixor 89 rfl dX7_layMatchings_88 ?_
            refine Go.iand 90 rfl dX7_layMatchings_89 ?_
            obtain ⟨v90, ev90, hf⟩ := f_nm hf
            refine Go.topi v90 ev90 ?_
            refine Go.istore 92 [(5, .int v90), (7, .int v65), (0, .ref a0), (1, .int a1), (2, .int v6), (3, .int v13), (4, .int l35_4), (6, .int l35_6)] rfl dX7_layMatchings_90 (by decide) rfl ?_
            refine Go.iload 7 94 rfl dX7_layMatchings_92 rfl ?_
            refine Go.iload_n 3 95 rfl dX7_layMatchings_94 rfl ?_
            obtain ⟨K112, eK112, hf⟩ := f_jn hf
            have J112 : ∀ (j112s1 : Int32), K112 j112s1 = some Sr → GoM G l 5 (TmR G none 97 Sr 0 0) mX7_layMatchings 112 [(0, .ref a0), (1, .int a1), (2, .int v6), (3, .int v13), (4, .int l35_4), (5, .int v90), (7, .int v65)] [.int j112s1, .int l35_6] l35S := by
              intro j112s1 hf
              rw [eK112] at hf
              refine Go.isub 113 rfl dX7_layMatchings_112 ?_
              obtain ⟨v113, ev113, hf⟩ := f_nm hf
              refine Go.topi v113 ev113 ?_
              refine Go.istore 115 [(6, .int v113), (0, .ref a0), (1, .int a1), (2, .int v6), (3, .int v13), (4, .int l35_4), (5, .int v90), (7, .int v65)] rfl dX7_layMatchings_113 (by decide) rfl ?_
              exact Go.sub [1, 2, 3, 4, 5, 6, 0, 7] [(0, .ref a0), (1, .int a1), (2, .int v6), (3, .int v13), (4, .int l35_4), (5, .int v90), (6, .int v113), (7, .int v65)] rfl (J115 v90 v113 hf)
            clear eK112
            refine Go.if_eq 111 98 rfl dX7_layMatchings_95 rfl (fun hc => ?_) (fun hc => ?_)
            · replace hf := f_if hf hc
              refine Go.iconst (1 : Int32) 112 rfl dX7_layMatchings_111 ci_1 ?_
              exact Go.sub [2, 3, 4, 5, 6, 0, 1] [(0, .ref a0), (1, .int a1), (2, .int v6), (3, .int v13), (4, .int l35_4), (5, .int v90), (7, .int v65)] rfl (J112 (1 : Int32) hf)
            · replace hf := f_el hf hc
              refine Go.aload_n 2 99 rfl dX7_layMatchings_98 rfl ?_
              obtain ⟨k99, qk99, hk99, hf⟩ := f_rfd hf
              refine Go.getR 102 rfl dX7_layMatchings_99 fl_X7_22 rfl (isT_lt ha0) (isT_sh ha0) qk99 ?_
              refine Go.bipush (52 : Int32) 104 rfl dX7_layMatchings_102 cb_52 ?_
              refine Go.iload 6 106 rfl dX7_layMatchings_104 rfl ?_
              refine Go.iadd 107 rfl dX7_layMatchings_106 ?_
              obtain ⟨g107, hf⟩ := f_grd hf
              refine Go.iald 108 rfl dX7_layMatchings_107 (isT_lt hk99) (isT_sh hk99) g107 ?_
              refine Go.goto 112 dX7_layMatchings_108 rfl ?_
              exact Go.sub [2, 3, 4, 5, 6, 0, 1] [(0, .ref a0), (1, .int a1), (2, .int v6), (3, .int v13), (4, .int l35_4), (5, .int v90), (7, .int v65)] rfl (J112 (l35S.1 k99 ((52 : Int32) + l35_4).toNatClampNeg) hf)
        · replace hf := f_if hf hc
          refine Go.aload_n 0 47 rfl dX7_layMatchings_46 rfl ?_
          refine Go.iload 6 49 rfl dX7_layMatchings_47 rfl ?_
          obtain ⟨S49, eS49, hf⟩ := f_bnd hf
          refine Go.cVv 52 [.int l35_6] [] (C_X7_counts G l n l35S a0 l35_6 S49 ha0 eS49) rfl dX7_layMatchings_49 cv_X7_168 ha0 (by decide) (by decide) rfl (Nat.le_of_ble_eq_true rfl) ?_
          refine Go.inc 4 55 (-1 : Int32) [(4, .int (l35_4 + (-1 : Int32))), (0, .ref a0), (1, .int a1), (2, .int v6), (3, .int v13), (5, .int l35_5), (6, .int l35_6)] rfl dX7_layMatchings_52 rfl ci_m1 (by decide) rfl ?_
          refine Go.goto 35 dX7_layMatchings_55 rfl ?_
          exact Go.sub [1, 2, 3, 4, 0, 5, 6] [(0, .ref a0), (1, .int a1), (2, .int v6), (3, .int v13), (4, .int (l35_4 + (-1 : Int32))), (5, .int l35_5), (6, .int l35_6)] rfl (ih (l35_4 + (-1 : Int32)) l35_5 l35_6 S49 hf)
  exact Go.sub [5, 6, 4, 3, 2, 1, 0] [(0, .ref a0), (1, .int a1), (2, .int v6), (3, .int v13), (4, .int (0 : Int32)), (5, .int (0 : Int32)), (6, .int (0 : Int32))] rfl (L35 n (0 : Int32) (0 : Int32) (0 : Int32) S34 hf)
theorem dX7_laid_0 : decode cX7_laid 0 = .ok (.aload_n 0, 1) := by decide +kernel
theorem dX7_laid_1 : decode cX7_laid 1 = .ok (.iload_n 1, 1) := by decide +kernel
theorem dX7_laid_2 : decode cX7_laid 2 = .ok (.aload_n 0, 1) := by decide +kernel
theorem dX7_laid_3 : decode cX7_laid 3 = .ok (.getfield 22, 3) := by decide +kernel
theorem dX7_laid_6 : decode cX7_laid 6 = .ok (.iconst 1, 1) := by decide +kernel
theorem dX7_laid_7 : decode cX7_laid 7 = .ok (.iaload, 1) := by decide +kernel
theorem dX7_laid_8 : decode cX7_laid 8 = .ok (.invokevirtual 178, 3) := by decide +kernel
theorem dX7_laid_11 : decode cX7_laid 11 = .ok (.istore_n 2, 1) := by decide +kernel
theorem dX7_laid_12 : decode cX7_laid 12 = .ok (.iconst 0, 1) := by decide +kernel
theorem dX7_laid_13 : decode cX7_laid 13 = .ok (.istore_n 3, 1) := by decide +kernel
theorem dX7_laid_14 : decode cX7_laid 14 = .ok (.iload_n 3, 1) := by decide +kernel
theorem dX7_laid_15 : decode cX7_laid 15 = .ok (.iload_n 2, 1) := by decide +kernel
theorem dX7_laid_16 : decode cX7_laid 16 = .ok (.if_icmp .ge 26, 3) := by decide +kernel
theorem dX7_laid_19 : decode cX7_laid 19 = .ok (.aload_n 0, 1) := by decide +kernel
theorem dX7_laid_20 : decode cX7_laid 20 = .ok (.getfield 13, 3) := by decide +kernel
theorem dX7_laid_23 : decode cX7_laid 23 = .ok (.bipush 40, 2) := by decide +kernel
theorem dX7_laid_25 : decode cX7_laid 25 = .ok (.iload_n 1, 1) := by decide +kernel
theorem dX7_laid_26 : decode cX7_laid 26 = .ok (.imul, 1) := by decide +kernel
theorem dX7_laid_27 : decode cX7_laid 27 = .ok (.iload_n 3, 1) := by decide +kernel
theorem dX7_laid_28 : decode cX7_laid 28 = .ok (.iadd, 1) := by decide +kernel
theorem dX7_laid_29 : decode cX7_laid 29 = .ok (.aload_n 0, 1) := by decide +kernel
theorem dX7_laid_30 : decode cX7_laid 30 = .ok (.getfield 45, 3) := by decide +kernel
theorem dX7_laid_33 : decode cX7_laid 33 = .ok (.iload_n 3, 1) := by decide +kernel
theorem dX7_laid_34 : decode cX7_laid 34 = .ok (.iaload, 1) := by decide +kernel
theorem dX7_laid_35 : decode cX7_laid 35 = .ok (.iastore, 1) := by decide +kernel
theorem dX7_laid_36 : decode cX7_laid 36 = .ok (.iinc 3 1, 3) := by decide +kernel
theorem dX7_laid_39 : decode cX7_laid 39 = .ok (.goto (-25), 3) := by decide +kernel
theorem dX7_laid_42 : decode cX7_laid 42 = .ok (.aload_n 0, 1) := by decide +kernel
theorem dX7_laid_43 : decode cX7_laid 43 = .ok (.getfield 165, 3) := by decide +kernel
theorem dX7_laid_46 : decode cX7_laid 46 = .ok (.ireturn, 1) := by decide +kernel
def F_X7_laid_L14 (a0 : Nat) (a1 : Int32) (r8 : Int32) (K42 : aSt → Option (Int32 × aSt)) : Nat → Int32 → aSt → Option (Int32 × aSt)
  | 0, _, _ => none
  | fu + 1, l14_3, l14S =>
    if r8 ≤ l14_3 then (K42 l14S) else
    rfd (l14S.2.2 a0 1) 7 fun k20 =>
    rfd (l14S.2.2 a0 15) 7 fun k30 =>
    grd (inb l14_3 (SH k30).2) <|
    grd (inb (((40 : Int32) * a1) + l14_3) (SH k20).2) <|
    nm (stI l14S k20 (((40 : Int32) * a1) + l14_3).toNatClampNeg (l14S.1 k30 l14_3.toNatClampNeg)) fun S35 =>
    F_X7_laid_L14 a0 a1 r8 K42 fu (l14_3 + (1 : Int32)) S35
def F_X7_laid (n : Nat) (S : aSt) (a0 : Nat) (a1 : Int32) : Option (Int32 × aSt) :=
rfd (S.2.2 a0 4) 7 fun k3 =>
grd (inb (1 : Int32) (SH k3).2) <|
bn2 (F_X7_row n S a0 a1 (S.1 k3 (1 : Int32).toNatClampNeg)) fun r8 S8 =>
jn (fun (x42S : aSt) => (some ((x42S.1 a0 18), x42S) : Option (Int32 × aSt))) fun K42 =>
F_X7_laid_L14 a0 a1 r8 K42 n (0 : Int32) S8
set_option maxHeartbeats 4000000 in
set_option maxRecDepth 100000 in
theorem C_X7_laid (G : aG) (l : Launch) (n : Nat) (S : aSt) (a0 : Nat) (a1 : Int32) (r : Int32) (Sr : aSt) (ha0 : isT a0 6 = true) (hf : F_X7_laid n S a0 a1 = some (r, Sr)) : Ctr G l yX7_laid mX7_laid (rmM 4) 97 97 S [.ref a0, .int a1] (some (.int r)) Sr := by
  refine Ctr.of (by decide) rfl rfl (Nat.le_of_ble_eq_true rfl) [(0, .ref a0), (1, .int a1)] rfl ?_
  unfold F_X7_laid at hf
  refine Go.aload_n 0 1 rfl dX7_laid_0 rfl ?_
  refine Go.iload_n 1 2 rfl dX7_laid_1 rfl ?_
  refine Go.aload_n 0 3 rfl dX7_laid_2 rfl ?_
  obtain ⟨k3, qk3, hk3, hf⟩ := f_rfd hf
  refine Go.getR 6 rfl dX7_laid_3 fl_X7_22 rfl (isT_lt ha0) (isT_sh ha0) qk3 ?_
  refine Go.iconst (1 : Int32) 7 rfl dX7_laid_6 ci_1 ?_
  obtain ⟨g7, hf⟩ := f_grd hf
  refine Go.iald 8 rfl dX7_laid_7 (isT_lt hk3) (isT_sh hk3) g7 ?_
  obtain ⟨r8, S8, er8, hf⟩ := f_bn2 hf
  refine Go.cV 11 [.int a1, .int (S.1 k3 (1 : Int32).toNatClampNeg)] [] (C_X7_row G l n S a0 a1 (S.1 k3 (1 : Int32).toNatClampNeg) r8 S8 ha0 er8) rfl dX7_laid_8 cv_X7_178 ha0 (by decide) (by decide) rfl (Nat.le_of_ble_eq_true rfl) ?_
  refine Go.istore_n 12 [(2, .int r8), (0, .ref a0), (1, .int a1)] rfl dX7_laid_11 (by decide) rfl ?_
  refine Go.iconst (0 : Int32) 13 rfl dX7_laid_12 ci_0 ?_
  refine Go.istore_n 14 [(3, .int (0 : Int32)), (2, .int r8), (0, .ref a0), (1, .int a1)] rfl dX7_laid_13 (by decide) rfl ?_
  obtain ⟨K42, eK42, hf⟩ := f_jn hf
  have J42 : ∀ (x42S : aSt), K42 x42S = some (r, Sr) → GoM G l 4 (TmR G (some (.int r)) 97 Sr 0 0) mX7_laid 42 [(0, .ref a0)] [] x42S := by
    intro x42S hf
    rw [eK42] at hf
    refine Go.aload_n 0 43 rfl dX7_laid_42 rfl ?_
    refine Go.getI 46 rfl dX7_laid_43 fl_X7_165 rfl (isT_lt ha0) (isT_sh ha0) ?_
    exact Go.irS rfl dX7_laid_46 hf
  clear eK42
  have L14 : ∀ (fu : Nat) (l14_3 : Int32) (l14S : aSt), F_X7_laid_L14 a0 a1 r8 K42 fu l14_3 l14S = some (r, Sr) → GoM G l 4 (TmR G (some (.int r)) 97 Sr 0 0) mX7_laid 14 [(0, .ref a0), (1, .int a1), (2, .int r8), (3, .int l14_3)] [] l14S := by
    intro fu
    induction fu with
    | zero => intro l14_3 l14S hf; rw [F_X7_laid_L14] at hf; cases hf
    | succ fu ih =>
      intro l14_3 l14S hf
      rw [F_X7_laid_L14] at hf
      refine Go.iload_n 3 15 rfl dX7_laid_14 rfl ?_
      refine Go.iload_n 2 16 rfl dX7_laid_15 rfl ?_
      refine Go.icmp_ge 42 19 rfl dX7_laid_16 rfl (fun hc => ?_) (fun hc => ?_)
      · replace hf := f_if hf hc
        exact Go.sub [0] [(0, .ref a0)] rfl (J42 l14S hf)
      · replace hf := f_el hf hc
        refine Go.aload_n 0 20 rfl dX7_laid_19 rfl ?_
        obtain ⟨k20, qk20, hk20, hf⟩ := f_rfd hf
        refine Go.getR 23 rfl dX7_laid_20 fl_X7_13 rfl (isT_lt ha0) (isT_sh ha0) qk20 ?_
        refine Go.bipush (40 : Int32) 25 rfl dX7_laid_23 cb_40 ?_
        refine Go.iload_n 1 26 rfl dX7_laid_25 rfl ?_
        refine Go.imul 27 rfl dX7_laid_26 ?_
        refine Go.iload_n 3 28 rfl dX7_laid_27 rfl ?_
        refine Go.iadd 29 rfl dX7_laid_28 ?_
        refine Go.aload_n 0 30 rfl dX7_laid_29 rfl ?_
        obtain ⟨k30, qk30, hk30, hf⟩ := f_rfd hf
        refine Go.getR 33 rfl dX7_laid_30 fl_X7_45 rfl (isT_lt ha0) (isT_sh ha0) qk30 ?_
        refine Go.iload_n 3 34 rfl dX7_laid_33 rfl ?_
        obtain ⟨g34, hf⟩ := f_grd hf
        refine Go.iald 35 rfl dX7_laid_34 (isT_lt hk30) (isT_sh hk30) g34 ?_
        obtain ⟨g35, hf⟩ := f_grd hf
        obtain ⟨S35, eS35, hf⟩ := f_nm hf
        refine Go.iast 36 rfl dX7_laid_35 (isT_lt hk20) (isT_sh hk20) g35 (Go.stt S35 eS35 ?_)
        refine Go.inc 3 39 (1 : Int32) [(3, .int (l14_3 + (1 : Int32))), (0, .ref a0), (1, .int a1), (2, .int r8)] rfl dX7_laid_36 rfl ci_1 (by decide) rfl ?_
        refine Go.goto 14 dX7_laid_39 rfl ?_
        exact Go.sub [1, 2, 3, 0] [(0, .ref a0), (1, .int a1), (2, .int r8), (3, .int (l14_3 + (1 : Int32)))] rfl (ih (l14_3 + (1 : Int32)) S35 hf)
  exact Go.sub [2, 3, 1, 0] [(0, .ref a0), (1, .int a1), (2, .int r8), (3, .int (0 : Int32))] rfl (L14 n (0 : Int32) S8 hf)
theorem dX7_match_0 : decode cX7_match 0 = .ok (.iload_n 1, 1) := by decide +kernel
theorem dX7_match_1 : decode cX7_match 1 = .ok (.invokestatic 72, 3) := by decide +kernel
theorem dX7_match_4 : decode cX7_match 4 = .ok (.ifCond .ne 5, 3) := by decide +kernel
theorem dX7_match_7 : decode cX7_match 7 = .ok (.iconst (-1), 1) := by decide +kernel
theorem dX7_match_8 : decode cX7_match 8 = .ok (.ireturn, 1) := by decide +kernel
theorem dX7_match_9 : decode cX7_match 9 = .ok (.aload_n 0, 1) := by decide +kernel
theorem dX7_match_10 : decode cX7_match 10 = .ok (.iconst 0, 1) := by decide +kernel
theorem dX7_match_11 : decode cX7_match 11 = .ok (.invokevirtual 181, 3) := by decide +kernel
theorem dX7_match_14 : decode cX7_match 14 = .ok (.aload_n 0, 1) := by decide +kernel
theorem dX7_match_15 : decode cX7_match 15 = .ok (.iload_n 1, 1) := by decide +kernel
theorem dX7_match_16 : decode cX7_match 16 = .ok (.invokevirtual 185, 3) := by decide +kernel
theorem dX7_match_19 : decode cX7_match 19 = .ok (.ireturn, 1) := by decide +kernel
def F_X7_match (n : Nat) (S : aSt) (a0 : Nat) (a1 : Int32) : Option (Int32 × aSt) :=
(F_X7_isRow n S a1).bind fun r1 =>
if r1 = 0 then (some ((-1 : Int32), S)) else
(F_X7_layMatchings n S a0 (0 : Int32)).bind fun S11 =>
bn2 (F_X7_laid n S11 a0 a1) fun r16 S16 =>
some (r16, S16)
set_option maxHeartbeats 4000000 in
set_option maxRecDepth 100000 in
theorem C_X7_match (G : aG) (l : Launch) (n : Nat) (S : aSt) (a0 : Nat) (a1 : Int32) (r : Int32) (Sr : aSt) (ha0 : isT a0 6 = true) (hf : F_X7_match n S a0 a1 = some (r, Sr)) : Ctr G l yX7_match mX7_match (rmM 6) 97 97 S [.ref a0, .int a1] (some (.int r)) Sr := by
  refine Ctr.of (by decide) rfl rfl (Nat.le_of_ble_eq_true rfl) [(0, .ref a0), (1, .int a1)] rfl ?_
  unfold F_X7_match at hf
  refine Go.iload_n 1 1 rfl dX7_match_0 rfl ?_
  obtain ⟨r1, er1, hf⟩ := f_bnd hf
  refine Go.cS 4 [.int a1] [] (C_X7_isRow G l n S a1 r1  er1) rfl dX7_match_1 cx_X7_72 (by decide) (by decide) rfl (Nat.le_of_ble_eq_true rfl) ?_
  refine Go.if_ne 9 7 rfl dX7_match_4 rfl (fun hc => ?_) (fun hc => ?_)
  · replace hf := f_el hf hc
    refine Go.aload_n 0 10 rfl dX7_match_9 rfl ?_
    refine Go.iconst (0 : Int32) 11 rfl dX7_match_10 ci_0 ?_
    obtain ⟨S11, eS11, hf⟩ := f_bnd hf
    refine Go.cVv 14 [.int (0 : Int32)] [] (C_X7_layMatchings G l n S a0 (0 : Int32) S11 ha0 eS11) rfl dX7_match_11 cv_X7_181 ha0 (by decide) (by decide) rfl (Nat.le_of_ble_eq_true rfl) ?_
    refine Go.aload_n 0 15 rfl dX7_match_14 rfl ?_
    refine Go.iload_n 1 16 rfl dX7_match_15 rfl ?_
    obtain ⟨r16, S16, er16, hf⟩ := f_bn2 hf
    refine Go.cV 19 [.int a1] [] (C_X7_laid G l n S11 a0 a1 r16 S16 ha0 er16) rfl dX7_match_16 cv_X7_185 ha0 (by decide) (by decide) rfl (Nat.le_of_ble_eq_true rfl) ?_
    exact Go.irS rfl dX7_match_19 hf
  · replace hf := f_if hf hc
    refine Go.iconst (-1 : Int32) 8 rfl dX7_match_7 ci_m1 ?_
    exact Go.irS rfl dX7_match_8 hf
theorem dX7_wished_0 : decode cX7_wished 0 = .ok (.iload_n 1, 1) := by decide +kernel
theorem dX7_wished_1 : decode cX7_wished 1 = .ok (.invokestatic 72, 3) := by decide +kernel
theorem dX7_wished_4 : decode cX7_wished 4 = .ok (.ifCond .ne 5, 3) := by decide +kernel
theorem dX7_wished_7 : decode cX7_wished 7 = .ok (.iconst (-1), 1) := by decide +kernel
theorem dX7_wished_8 : decode cX7_wished 8 = .ok (.ireturn, 1) := by decide +kernel
theorem dX7_wished_9 : decode cX7_wished 9 = .ok (.aload_n 0, 1) := by decide +kernel
theorem dX7_wished_10 : decode cX7_wished 10 = .ok (.iconst 1, 1) := by decide +kernel
theorem dX7_wished_11 : decode cX7_wished 11 = .ok (.invokevirtual 181, 3) := by decide +kernel
theorem dX7_wished_14 : decode cX7_wished 14 = .ok (.aload_n 0, 1) := by decide +kernel
theorem dX7_wished_15 : decode cX7_wished 15 = .ok (.iload_n 1, 1) := by decide +kernel
theorem dX7_wished_16 : decode cX7_wished 16 = .ok (.invokevirtual 185, 3) := by decide +kernel
theorem dX7_wished_19 : decode cX7_wished 19 = .ok (.ireturn, 1) := by decide +kernel
def F_X7_wished (n : Nat) (S : aSt) (a0 : Nat) (a1 : Int32) : Option (Int32 × aSt) :=
(F_X7_isRow n S a1).bind fun r1 =>
if r1 = 0 then (some ((-1 : Int32), S)) else
(F_X7_layMatchings n S a0 (1 : Int32)).bind fun S11 =>
bn2 (F_X7_laid n S11 a0 a1) fun r16 S16 =>
some (r16, S16)
set_option maxHeartbeats 4000000 in
set_option maxRecDepth 100000 in
theorem C_X7_wished (G : aG) (l : Launch) (n : Nat) (S : aSt) (a0 : Nat) (a1 : Int32) (r : Int32) (Sr : aSt) (ha0 : isT a0 6 = true) (hf : F_X7_wished n S a0 a1 = some (r, Sr)) : Ctr G l yX7_wished mX7_wished (rmM 6) 97 97 S [.ref a0, .int a1] (some (.int r)) Sr := by
  refine Ctr.of (by decide) rfl rfl (Nat.le_of_ble_eq_true rfl) [(0, .ref a0), (1, .int a1)] rfl ?_
  unfold F_X7_wished at hf
  refine Go.iload_n 1 1 rfl dX7_wished_0 rfl ?_
  obtain ⟨r1, er1, hf⟩ := f_bnd hf
  refine Go.cS 4 [.int a1] [] (C_X7_isRow G l n S a1 r1  er1) rfl dX7_wished_1 cx_X7_72 (by decide) (by decide) rfl (Nat.le_of_ble_eq_true rfl) ?_
  refine Go.if_ne 9 7 rfl dX7_wished_4 rfl (fun hc => ?_) (fun hc => ?_)
  · replace hf := f_el hf hc
    refine Go.aload_n 0 10 rfl dX7_wished_9 rfl ?_
    refine Go.iconst (1 : Int32) 11 rfl dX7_wished_10 ci_1 ?_
    obtain ⟨S11, eS11, hf⟩ := f_bnd hf
    refine Go.cVv 14 [.int (1 : Int32)] [] (C_X7_layMatchings G l n S a0 (1 : Int32) S11 ha0 eS11) rfl dX7_wished_11 cv_X7_181 ha0 (by decide) (by decide) rfl (Nat.le_of_ble_eq_true rfl) ?_
    refine Go.aload_n 0 15 rfl dX7_wished_14 rfl ?_
    refine Go.iload_n 1 16 rfl dX7_wished_15 rfl ?_
    obtain ⟨r16, S16, er16, hf⟩ := f_bn2 hf
    refine Go.cV 19 [.int a1] [] (C_X7_laid G l n S11 a0 a1 r16 S16 ha0 er16) rfl dX7_wished_16 cv_X7_185 ha0 (by decide) (by decide) rfl (Nat.le_of_ble_eq_true rfl) ?_
    exact Go.irS rfl dX7_wished_19 hf
  · replace hf := f_if hf hc
    refine Go.iconst (-1 : Int32) 8 rfl dX7_wished_7 ci_m1 ?_
    exact Go.irS rfl dX7_wished_8 hf
theorem dX7_fullest_0 : decode cX7_fullest 0 = .ok (.aload_n 0, 1) := by decide +kernel
theorem dX7_fullest_1 : decode cX7_fullest 1 = .ok (.iconst 0, 1) := by decide +kernel
theorem dX7_fullest_2 : decode cX7_fullest 2 = .ok (.invokevirtual 181, 3) := by decide +kernel
theorem dX7_fullest_5 : decode cX7_fullest 5 = .ok (.iconst 0, 1) := by decide +kernel
theorem dX7_fullest_6 : decode cX7_fullest 6 = .ok (.istore_n 1, 1) := by decide +kernel
theorem dX7_fullest_7 : decode cX7_fullest 7 = .ok (.iconst 0, 1) := by decide +kernel
theorem dX7_fullest_8 : decode cX7_fullest 8 = .ok (.istore_n 2, 1) := by decide +kernel
theorem dX7_fullest_9 : decode cX7_fullest 9 = .ok (.iload_n 2, 1) := by decide +kernel
theorem dX7_fullest_10 : decode cX7_fullest 10 = .ok (.bipush 49, 2) := by decide +kernel
theorem dX7_fullest_12 : decode cX7_fullest 12 = .ok (.if_icmp .ge 30, 3) := by decide +kernel
theorem dX7_fullest_15 : decode cX7_fullest 15 = .ok (.iload_n 1, 1) := by decide +kernel
theorem dX7_fullest_16 : decode cX7_fullest 16 = .ok (.aload_n 0, 1) := by decide +kernel
theorem dX7_fullest_17 : decode cX7_fullest 17 = .ok (.getfield 48, 3) := by decide +kernel
theorem dX7_fullest_20 : decode cX7_fullest 20 = .ok (.iload_n 2, 1) := by decide +kernel
theorem dX7_fullest_21 : decode cX7_fullest 21 = .ok (.iaload, 1) := by decide +kernel
theorem dX7_fullest_22 : decode cX7_fullest 22 = .ok (.aload_n 0, 1) := by decide +kernel
theorem dX7_fullest_23 : decode cX7_fullest 23 = .ok (.getfield 175, 3) := by decide +kernel
theorem dX7_fullest_26 : decode cX7_fullest 26 = .ok (.if_icmp .ne 7, 3) := by decide +kernel
theorem dX7_fullest_29 : decode cX7_fullest 29 = .ok (.iconst 1, 1) := by decide +kernel
theorem dX7_fullest_30 : decode cX7_fullest 30 = .ok (.goto 4, 3) := by decide +kernel
theorem dX7_fullest_33 : decode cX7_fullest 33 = .ok (.iconst 0, 1) := by decide +kernel
theorem dX7_fullest_34 : decode cX7_fullest 34 = .ok (.iadd, 1) := by decide +kernel
theorem dX7_fullest_35 : decode cX7_fullest 35 = .ok (.istore_n 1, 1) := by decide +kernel
theorem dX7_fullest_36 : decode cX7_fullest 36 = .ok (.iinc 2 1, 3) := by decide +kernel
theorem dX7_fullest_39 : decode cX7_fullest 39 = .ok (.goto (-30), 3) := by decide +kernel
theorem dX7_fullest_42 : decode cX7_fullest 42 = .ok (.aload_n 0, 1) := by decide +kernel
theorem dX7_fullest_43 : decode cX7_fullest 43 = .ok (.iload_n 1, 1) := by decide +kernel
theorem dX7_fullest_44 : decode cX7_fullest 44 = .ok (.invokevirtual 80, 3) := by decide +kernel
theorem dX7_fullest_47 : decode cX7_fullest 47 = .ok (.istore_n 2, 1) := by decide +kernel
theorem dX7_fullest_48 : decode cX7_fullest 48 = .ok (.aload_n 0, 1) := by decide +kernel
theorem dX7_fullest_49 : decode cX7_fullest 49 = .ok (.getfield 175, 3) := by decide +kernel
theorem dX7_fullest_52 : decode cX7_fullest 52 = .ok (.ireturn, 1) := by decide +kernel
def F_X7_fullest_L9 (a0 : Nat) (S2 : aSt) (K42 : Int32 → Option (Int32 × aSt)) : Nat → Int32 → Int32 → Option (Int32 × aSt)
  | 0, _, _ => none
  | fu + 1, l9_1, l9_2 =>
    if (49 : Int32) ≤ l9_2 then (K42 l9_1) else
    rfd (S2.2.2 a0 16) 7 fun k17 =>
    grd (inb l9_2 (SH k17).2) <|
    jn (fun (j34s1 : Int32) => (nm (l9_1 + j34s1) fun v35 =>
    F_X7_fullest_L9 a0 S2 K42 fu v35 (l9_2 + (1 : Int32)) : Option (Int32 × aSt))) fun K34 =>
    if (S2.1 k17 l9_2.toNatClampNeg) = (S2.1 a0 17) then (K34 (1 : Int32)) else
    K34 (0 : Int32)
def F_X7_fullest (n : Nat) (S : aSt) (a0 : Nat) : Option (Int32 × aSt) :=
(F_X7_layMatchings n S a0 (0 : Int32)).bind fun S2 =>
jn (fun (x42_1 : Int32) => (bn2 (F_X7_tell n S2 a0 x42_1) fun r44 S44 =>
some ((S44.1 a0 17), S44) : Option (Int32 × aSt))) fun K42 =>
F_X7_fullest_L9 a0 S2 K42 n (0 : Int32) (0 : Int32)
set_option maxHeartbeats 4000000 in
set_option maxRecDepth 100000 in
theorem C_X7_fullest (G : aG) (l : Launch) (n : Nat) (S : aSt) (a0 : Nat) (r : Int32) (Sr : aSt) (ha0 : isT a0 6 = true) (hf : F_X7_fullest n S a0 = some (r, Sr)) : Ctr G l yX7_fullest mX7_fullest (rmM 6) 97 97 S [.ref a0] (some (.int r)) Sr := by
  refine Ctr.of (by decide) rfl rfl (Nat.le_of_ble_eq_true rfl) [(0, .ref a0)] rfl ?_
  unfold F_X7_fullest at hf
  refine Go.aload_n 0 1 rfl dX7_fullest_0 rfl ?_
  refine Go.iconst (0 : Int32) 2 rfl dX7_fullest_1 ci_0 ?_
  obtain ⟨S2, eS2, hf⟩ := f_bnd hf
  refine Go.cVv 5 [.int (0 : Int32)] [] (C_X7_layMatchings G l n S a0 (0 : Int32) S2 ha0 eS2) rfl dX7_fullest_2 cv_X7_181 ha0 (by decide) (by decide) rfl (Nat.le_of_ble_eq_true rfl) ?_
  refine Go.iconst (0 : Int32) 6 rfl dX7_fullest_5 ci_0 ?_
  refine Go.istore_n 7 [(1, .int (0 : Int32)), (0, .ref a0)] rfl dX7_fullest_6 (by decide) rfl ?_
  refine Go.iconst (0 : Int32) 8 rfl dX7_fullest_7 ci_0 ?_
  refine Go.istore_n 9 [(2, .int (0 : Int32)), (1, .int (0 : Int32)), (0, .ref a0)] rfl dX7_fullest_8 (by decide) rfl ?_
  obtain ⟨K42, eK42, hf⟩ := f_jn hf
  have J42 : ∀ (x42_1 : Int32), K42 x42_1 = some (r, Sr) → GoM G l 6 (TmR G (some (.int r)) 97 Sr 0 0) mX7_fullest 42 [(0, .ref a0), (1, .int x42_1)] [] S2 := by
    intro x42_1 hf
    rw [eK42] at hf
    refine Go.aload_n 0 43 rfl dX7_fullest_42 rfl ?_
    refine Go.iload_n 1 44 rfl dX7_fullest_43 rfl ?_
    obtain ⟨r44, S44, er44, hf⟩ := f_bn2 hf
    refine Go.cV 47 [.int x42_1] [] (C_X7_tell G l n S2 a0 x42_1 r44 S44 ha0 er44) rfl dX7_fullest_44 cv_X7_80 ha0 (by decide) (by decide) rfl (Nat.le_of_ble_eq_true rfl) ?_
    refine Go.istore_n 48 [(2, .int r44), (0, .ref a0), (1, .int x42_1)] rfl dX7_fullest_47 (by decide) rfl ?_
    refine Go.aload_n 1 49 rfl dX7_fullest_48 rfl ?_
    refine Go.getI 52 rfl dX7_fullest_49 fl_X7_175 rfl (isT_lt ha0) (isT_sh ha0) ?_
    exact Go.irS rfl dX7_fullest_52 hf
  clear eK42
  have L9 : ∀ (fu : Nat) (l9_1 : Int32) (l9_2 : Int32), F_X7_fullest_L9 a0 S2 K42 fu l9_1 l9_2 = some (r, Sr) → GoM G l 6 (TmR G (some (.int r)) 97 Sr 0 0) mX7_fullest 9 [(0, .ref a0), (1, .int l9_1), (2, .int l9_2)] [] S2 := by
    intro fu
    induction fu with
    | zero => intro l9_1 l9_2 hf; rw [F_X7_fullest_L9] at hf; cases hf
    | succ fu ih =>
      intro l9_1 l9_2 hf
      rw [F_X7_fullest_L9] at hf
      refine Go.iload_n 2 10 rfl dX7_fullest_9 rfl ?_
      refine Go.bipush (49 : Int32) 12 rfl dX7_fullest_10 cb_49 ?_
      refine Go.icmp_ge 42 15 rfl dX7_fullest_12 rfl (fun hc => ?_) (fun hc => ?_)
      · replace hf := f_if hf hc
        exact Go.sub [0, 1] [(0, .ref a0), (1, .int l9_1)] rfl (J42 l9_1 hf)
      · replace hf := f_el hf hc
        refine Go.iload_n 1 16 rfl dX7_fullest_15 rfl ?_
        refine Go.aload_n 0 17 rfl dX7_fullest_16 rfl ?_
        obtain ⟨k17, qk17, hk17, hf⟩ := f_rfd hf
        refine Go.getR 20 rfl dX7_fullest_17 fl_X7_48 rfl (isT_lt ha0) (isT_sh ha0) qk17 ?_
        refine Go.iload_n 2 21 rfl dX7_fullest_20 rfl ?_
        obtain ⟨g21, hf⟩ := f_grd hf
        refine Go.iald 22 rfl dX7_fullest_21 (isT_lt hk17) (isT_sh hk17) g21 ?_
        refine Go.aload_n 0 23 rfl dX7_fullest_22 rfl ?_
        refine Go.getI 26 rfl dX7_fullest_23 fl_X7_175 rfl (isT_lt ha0) (isT_sh ha0) ?_
        obtain ⟨K34, eK34, hf⟩ := f_jn hf
        have J34 : ∀ (j34s1 : Int32), K34 j34s1 = some (r, Sr) → GoM G l 6 (TmR G (some (.int r)) 97 Sr 0 0) mX7_fullest 34 [(0, .ref a0), (2, .int l9_2)] [.int j34s1, .int l9_1] S2 := by
          intro j34s1 hf
          rw [eK34] at hf
          refine Go.iadd 35 rfl dX7_fullest_34 ?_
          obtain ⟨v35, ev35, hf⟩ := f_nm hf
          refine Go.topi v35 ev35 ?_
          refine Go.istore_n 36 [(1, .int v35), (0, .ref a0), (2, .int l9_2)] rfl dX7_fullest_35 (by decide) rfl ?_
          refine Go.inc 2 39 (1 : Int32) [(2, .int (l9_2 + (1 : Int32))), (1, .int v35), (0, .ref a0)] rfl dX7_fullest_36 rfl ci_1 (by decide) rfl ?_
          refine Go.goto 9 dX7_fullest_39 rfl ?_
          exact Go.sub [2, 1, 0] [(0, .ref a0), (1, .int v35), (2, .int (l9_2 + (1 : Int32)))] rfl (ih v35 (l9_2 + (1 : Int32)) hf)
        clear eK34
        refine Go.icmp_ne 33 29 rfl dX7_fullest_26 rfl (fun hc => ?_) (fun hc => ?_)
        · replace hf := f_el hf hc
          refine Go.iconst (0 : Int32) 34 rfl dX7_fullest_33 ci_0 ?_
          exact Go.sub [0, 2] [(0, .ref a0), (2, .int l9_2)] rfl (J34 (0 : Int32) hf)
        · replace hf := f_if hf hc
          refine Go.iconst (1 : Int32) 30 rfl dX7_fullest_29 ci_1 ?_
          refine Go.goto 34 dX7_fullest_30 rfl ?_
          exact Go.sub [0, 2] [(0, .ref a0), (2, .int l9_2)] rfl (J34 (1 : Int32) hf)
  exact Go.sub [2, 1, 0] [(0, .ref a0), (1, .int (0 : Int32)), (2, .int (0 : Int32))] rfl (L9 n (0 : Int32) (0 : Int32) hf)
