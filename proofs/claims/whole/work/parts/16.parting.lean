/-! written by program: X3_countMeanings X3_partFrom X3_partBest X3_fewestFor X3_findIn -/
theorem dX3_countMeanings_0 : decode cX3_countMeanings 0 = .ok (.aload_n 0, 1) := by decide +kernel
theorem dX3_countMeanings_1 : decode cX3_countMeanings 1 = .ok (.getfield 9, 3) := by decide +kernel
theorem dX3_countMeanings_4 : decode cX3_countMeanings 4 = .ok (.iconst 0, 1) := by decide +kernel
theorem dX3_countMeanings_5 : decode cX3_countMeanings 5 = .ok (.invokestatic 50, 3) := by decide +kernel
theorem dX3_countMeanings_8 : decode cX3_countMeanings 8 = .ok (.iconst 0, 1) := by decide +kernel
theorem dX3_countMeanings_9 : decode cX3_countMeanings 9 = .ok (.istore_n 3, 1) := by decide +kernel
theorem dX3_countMeanings_10 : decode cX3_countMeanings 10 = .ok (.iload_n 3, 1) := by decide +kernel
theorem dX3_countMeanings_11 : decode cX3_countMeanings 11 = .ok (.aload_n 1, 1) := by decide +kernel
theorem dX3_countMeanings_12 : decode cX3_countMeanings 12 = .ok (.getfield 41, 3) := by decide +kernel
theorem dX3_countMeanings_15 : decode cX3_countMeanings 15 = .ok (.if_icmp .ge 36, 3) := by decide +kernel
theorem dX3_countMeanings_18 : decode cX3_countMeanings 18 = .ok (.aload_n 1, 1) := by decide +kernel
theorem dX3_countMeanings_19 : decode cX3_countMeanings 19 = .ok (.getfield 56, 3) := by decide +kernel
theorem dX3_countMeanings_22 : decode cX3_countMeanings 22 = .ok (.iload_n 3, 1) := by decide +kernel
theorem dX3_countMeanings_23 : decode cX3_countMeanings 23 = .ok (.iaload, 1) := by decide +kernel
theorem dX3_countMeanings_24 : decode cX3_countMeanings 24 = .ok (.iload_n 2, 1) := by decide +kernel
theorem dX3_countMeanings_25 : decode cX3_countMeanings 25 = .ok (.invokestatic 59, 3) := by decide +kernel
theorem dX3_countMeanings_28 : decode cX3_countMeanings 28 = .ok (.ifCond .eq 17, 3) := by decide +kernel
theorem dX3_countMeanings_31 : decode cX3_countMeanings 31 = .ok (.aload_n 0, 1) := by decide +kernel
theorem dX3_countMeanings_32 : decode cX3_countMeanings 32 = .ok (.getfield 9, 3) := by decide +kernel
theorem dX3_countMeanings_35 : decode cX3_countMeanings 35 = .ok (.aload_n 1, 1) := by decide +kernel
theorem dX3_countMeanings_36 : decode cX3_countMeanings 36 = .ok (.iload_n 3, 1) := by decide +kernel
theorem dX3_countMeanings_37 : decode cX3_countMeanings 37 = .ok (.invokevirtual 65, 3) := by decide +kernel
theorem dX3_countMeanings_40 : decode cX3_countMeanings 40 = .ok (.dup2, 1) := by decide +kernel
theorem dX3_countMeanings_41 : decode cX3_countMeanings 41 = .ok (.iaload, 1) := by decide +kernel
theorem dX3_countMeanings_42 : decode cX3_countMeanings 42 = .ok (.iconst 1, 1) := by decide +kernel
theorem dX3_countMeanings_43 : decode cX3_countMeanings 43 = .ok (.iadd, 1) := by decide +kernel
theorem dX3_countMeanings_44 : decode cX3_countMeanings 44 = .ok (.iastore, 1) := by decide +kernel
theorem dX3_countMeanings_45 : decode cX3_countMeanings 45 = .ok (.iinc 3 1, 3) := by decide +kernel
theorem dX3_countMeanings_48 : decode cX3_countMeanings 48 = .ok (.goto (-38), 3) := by decide +kernel
theorem dX3_countMeanings_51 : decode cX3_countMeanings 51 = .ok (.return_, 1) := by decide +kernel
def F_X3_countMeanings_L10 (n : Nat) (a0 : Nat) (a1 : Nat) (a2 : Int32) (K51 : aSt → Option aSt) : Nat → Int32 → aSt → Option aSt
  | 0, _, _ => none
  | fu + 1, l10_3, l10S =>
    if (l10S.1 a1 7) ≤ l10_3 then (K51 l10S) else
    rfd (l10S.2.2 a1 0) 7 fun k19 =>
    grd (inb l10_3 (SH k19).2) <|
    (F_X0_isA n l10S (l10S.1 k19 l10_3.toNatClampNeg) a2).bind fun r25 =>
    jn (fun (j45S : aSt) => (F_X3_countMeanings_L10 n a0 a1 a2 K51 fu (l10_3 + (1 : Int32)) j45S : Option aSt)) fun K45 =>
    if r25 = 0 then (K45 l10S) else
    rfd (l10S.2.2 a0 0) 7 fun k32 =>
    (F_X1_meaningOf n l10S a1 l10_3).bind fun r37 =>
    grd (inb r37 (SH k32).2) <|
    grd (inb r37 (SH k32).2) <|
    nm (stI l10S k32 r37.toNatClampNeg ((l10S.1 k32 r37.toNatClampNeg) + (1 : Int32))) fun S44 =>
    K45 S44
def F_X3_countMeanings (n : Nat) (S : aSt) (a0 : Nat) (a1 : Nat) (a2 : Int32) : Option aSt :=
rfd (S.2.2 a0 0) 7 fun k1 =>
(F_J7_fill_53178 n S k1 (0 : Int32)).bind fun S5 =>
jn (fun (x51S : aSt) => (some x51S : Option aSt)) fun K51 =>
F_X3_countMeanings_L10 n a0 a1 a2 K51 n (0 : Int32) S5
set_option maxHeartbeats 4000000 in
set_option maxRecDepth 100000 in
theorem C_X3_countMeanings (G : aG) (l : Launch) (n : Nat) (S : aSt) (a0 : Nat) (a1 : Nat) (a2 : Int32) (Sr : aSt) (ha0 : isT a0 2 = true) (ha1 : isT a1 0 = true) (hf : F_X3_countMeanings n S a0 a1 a2 = some Sr) : Ctr G l yX3_countMeanings mX3_countMeanings (rmM 3) 97 97 S [.ref a0, .ref a1, .int a2] none Sr := by
  refine Ctr.of (by decide) rfl rfl (Nat.le_of_ble_eq_true rfl) [(0, .ref a0), (1, .ref a1), (2, .int a2)] rfl ?_
  unfold F_X3_countMeanings at hf
  refine Go.aload_n 0 1 rfl dX3_countMeanings_0 rfl ?_
  obtain ⟨k1, qk1, hk1, hf⟩ := f_rfd hf
  refine Go.getR 4 rfl dX3_countMeanings_1 fl_X3_9 rfl (isT_lt ha0) (isT_sh ha0) qk1 ?_
  refine Go.iconst (0 : Int32) 5 rfl dX3_countMeanings_4 ci_0 ?_
  obtain ⟨S5, eS5, hf⟩ := f_bnd hf
  refine Go.cSv 8 [.ref k1, .int (0 : Int32)] [] (C_J7_fill_53178 G l n S k1 (0 : Int32) S5 hk1 eS5) rfl dX3_countMeanings_5 cx_X3_50 (by decide) (by decide) rfl (Nat.le_of_ble_eq_true rfl) ?_
  refine Go.iconst (0 : Int32) 9 rfl dX3_countMeanings_8 ci_0 ?_
  refine Go.istore_n 10 [(3, .int (0 : Int32)), (0, .ref a0), (1, .ref a1), (2, .int a2)] rfl dX3_countMeanings_9 (by decide) rfl ?_
  obtain ⟨K51, eK51, hf⟩ := f_jn hf
  have J51 : ∀ (x51S : aSt), K51 x51S = some Sr → GoM G l 3 (TmR G none 97 Sr 0 0) mX3_countMeanings 51 [] [] x51S := by
    intro x51S hf
    rw [eK51] at hf
    exact Go.vr rfl dX3_countMeanings_51 hf
  clear eK51
  have L10 : ∀ (fu : Nat) (l10_3 : Int32) (l10S : aSt), F_X3_countMeanings_L10 n a0 a1 a2 K51 fu l10_3 l10S = some Sr → GoM G l 3 (TmR G none 97 Sr 0 0) mX3_countMeanings 10 [(0, .ref a0), (1, .ref a1), (2, .int a2), (3, .int l10_3)] [] l10S := by
    intro fu
    induction fu with
    | zero => intro l10_3 l10S hf; rw [F_X3_countMeanings_L10] at hf; cases hf
    | succ fu ih =>
      intro l10_3 l10S hf
      rw [F_X3_countMeanings_L10] at hf
      refine Go.iload_n 3 11 rfl dX3_countMeanings_10 rfl ?_
      refine Go.aload_n 1 12 rfl dX3_countMeanings_11 rfl ?_
      refine Go.getI 15 rfl dX3_countMeanings_12 fl_X3_41 rfl (isT_lt ha1) (isT_sh ha1) ?_
      refine Go.icmp_ge 51 18 rfl dX3_countMeanings_15 rfl (fun hc => ?_) (fun hc => ?_)
      · replace hf := f_if hf hc
        exact Go.sub [] [] rfl (J51 l10S hf)
      · replace hf := f_el hf hc
        refine Go.aload_n 1 19 rfl dX3_countMeanings_18 rfl ?_
        obtain ⟨k19, qk19, hk19, hf⟩ := f_rfd hf
        refine Go.getR 22 rfl dX3_countMeanings_19 fl_X3_56 rfl (isT_lt ha1) (isT_sh ha1) qk19 ?_
        refine Go.iload_n 3 23 rfl dX3_countMeanings_22 rfl ?_
        obtain ⟨g23, hf⟩ := f_grd hf
        refine Go.iald 24 rfl dX3_countMeanings_23 (isT_lt hk19) (isT_sh hk19) g23 ?_
        refine Go.iload_n 2 25 rfl dX3_countMeanings_24 rfl ?_
        obtain ⟨r25, er25, hf⟩ := f_bnd hf
        refine Go.cS 28 [.int (l10S.1 k19 l10_3.toNatClampNeg), .int a2] [] (C_X0_isA G l n l10S (l10S.1 k19 l10_3.toNatClampNeg) a2 r25  er25) rfl dX3_countMeanings_25 cx_X3_59 (by decide) (by decide) rfl (Nat.le_of_ble_eq_true rfl) ?_
        obtain ⟨K45, eK45, hf⟩ := f_jn hf
        have J45 : ∀ (j45S : aSt), K45 j45S = some Sr → GoM G l 3 (TmR G none 97 Sr 0 0) mX3_countMeanings 45 [(0, .ref a0), (1, .ref a1), (2, .int a2), (3, .int l10_3)] [] j45S := by
          intro j45S hf
          rw [eK45] at hf
          refine Go.inc 3 48 (1 : Int32) [(3, .int (l10_3 + (1 : Int32))), (0, .ref a0), (1, .ref a1), (2, .int a2)] rfl dX3_countMeanings_45 rfl ci_1 (by decide) rfl ?_
          refine Go.goto 10 dX3_countMeanings_48 rfl ?_
          exact Go.sub [1, 2, 3, 0] [(0, .ref a0), (1, .ref a1), (2, .int a2), (3, .int (l10_3 + (1 : Int32)))] rfl (ih (l10_3 + (1 : Int32)) j45S hf)
        clear eK45
        refine Go.if_eq 45 31 rfl dX3_countMeanings_28 rfl (fun hc => ?_) (fun hc => ?_)
        · replace hf := f_if hf hc
          exact J45 l10S hf
        · replace hf := f_el hf hc
          refine Go.aload_n 0 32 rfl dX3_countMeanings_31 rfl ?_
          obtain ⟨k32, qk32, hk32, hf⟩ := f_rfd hf
          refine Go.getR 35 rfl dX3_countMeanings_32 fl_X3_9 rfl (isT_lt ha0) (isT_sh ha0) qk32 ?_
          refine Go.aload_n 1 36 rfl dX3_countMeanings_35 rfl ?_
          refine Go.iload_n 3 37 rfl dX3_countMeanings_36 rfl ?_
          obtain ⟨r37, er37, hf⟩ := f_bnd hf
          refine Go.cV 40 [.int l10_3] [.ref k32] (C_X1_meaningOf G l n l10S a1 l10_3 r37 ha1 er37) rfl dX3_countMeanings_37 cv_X3_65 ha1 (by decide) (by decide) rfl (Nat.le_of_ble_eq_true rfl) ?_
          refine Go.dup2 41 rfl dX3_countMeanings_40 rfl rfl ?_
          obtain ⟨g41, hf⟩ := f_grd hf
          refine Go.iald 42 rfl dX3_countMeanings_41 (isT_lt hk32) (isT_sh hk32) g41 ?_
          refine Go.iconst (1 : Int32) 43 rfl dX3_countMeanings_42 ci_1 ?_
          refine Go.iadd 44 rfl dX3_countMeanings_43 ?_
          obtain ⟨g44, hf⟩ := f_grd hf
          obtain ⟨S44, eS44, hf⟩ := f_nm hf
          refine Go.iast 45 rfl dX3_countMeanings_44 (isT_lt hk32) (isT_sh hk32) g44 (Go.stt S44 eS44 ?_)
          exact J45 S44 hf
  exact Go.sub [1, 2, 3, 0] [(0, .ref a0), (1, .ref a1), (2, .int a2), (3, .int (0 : Int32))] rfl (L10 n (0 : Int32) S5 hf)
theorem dX3_partFrom_0 : decode cX3_partFrom 0 = .ok (.iconst 0, 1) := by decide +kernel
theorem dX3_partFrom_1 : decode cX3_partFrom 1 = .ok (.istore 4, 2) := by decide +kernel
theorem dX3_partFrom_3 : decode cX3_partFrom 3 = .ok (.iload_n 2, 1) := by decide +kernel
theorem dX3_partFrom_4 : decode cX3_partFrom 4 = .ok (.istore 5, 2) := by decide +kernel
theorem dX3_partFrom_6 : decode cX3_partFrom 6 = .ok (.iload 5, 2) := by decide +kernel
theorem dX3_partFrom_8 : decode cX3_partFrom 8 = .ok (.bipush 10, 2) := by decide +kernel
theorem dX3_partFrom_10 : decode cX3_partFrom 10 = .ok (.if_icmp .ge 77, 3) := by decide +kernel
theorem dX3_partFrom_13 : decode cX3_partFrom 13 = .ok (.iload 4, 2) := by decide +kernel
theorem dX3_partFrom_15 : decode cX3_partFrom 15 = .ok (.aload_n 0, 1) := by decide +kernel
theorem dX3_partFrom_16 : decode cX3_partFrom 16 = .ok (.getfield 9, 3) := by decide +kernel
theorem dX3_partFrom_19 : decode cX3_partFrom 19 = .ok (.iload 5, 2) := by decide +kernel
theorem dX3_partFrom_21 : decode cX3_partFrom 21 = .ok (.iaload, 1) := by decide +kernel
theorem dX3_partFrom_22 : decode cX3_partFrom 22 = .ok (.iadd, 1) := by decide +kernel
theorem dX3_partFrom_23 : decode cX3_partFrom 23 = .ok (.istore 4, 2) := by decide +kernel
theorem dX3_partFrom_25 : decode cX3_partFrom 25 = .ok (.bipush 10, 2) := by decide +kernel
theorem dX3_partFrom_27 : decode cX3_partFrom 27 = .ok (.iconst 2, 1) := by decide +kernel
theorem dX3_partFrom_28 : decode cX3_partFrom 28 = .ok (.iload 4, 2) := by decide +kernel
theorem dX3_partFrom_30 : decode cX3_partFrom 30 = .ok (.imul, 1) := by decide +kernel
theorem dX3_partFrom_31 : decode cX3_partFrom 31 = .ok (.iload_n 3, 1) := by decide +kernel
theorem dX3_partFrom_32 : decode cX3_partFrom 32 = .ok (.isub, 1) := by decide +kernel
theorem dX3_partFrom_33 : decode cX3_partFrom 33 = .ok (.invokestatic 69, 3) := by decide +kernel
theorem dX3_partFrom_36 : decode cX3_partFrom 36 = .ok (.imul, 1) := by decide +kernel
theorem dX3_partFrom_37 : decode cX3_partFrom 37 = .ok (.iload 5, 2) := by decide +kernel
theorem dX3_partFrom_39 : decode cX3_partFrom 39 = .ok (.iadd, 1) := by decide +kernel
theorem dX3_partFrom_40 : decode cX3_partFrom 40 = .ok (.iload_n 2, 1) := by decide +kernel
theorem dX3_partFrom_41 : decode cX3_partFrom 41 = .ok (.isub, 1) := by decide +kernel
theorem dX3_partFrom_42 : decode cX3_partFrom 42 = .ok (.istore 6, 2) := by decide +kernel
theorem dX3_partFrom_44 : decode cX3_partFrom 44 = .ok (.iload 6, 2) := by decide +kernel
theorem dX3_partFrom_46 : decode cX3_partFrom 46 = .ok (.aload_n 0, 1) := by decide +kernel
theorem dX3_partFrom_47 : decode cX3_partFrom 47 = .ok (.getfield 31, 3) := by decide +kernel
theorem dX3_partFrom_50 : decode cX3_partFrom 50 = .ok (.if_icmp .ge 31, 3) := by decide +kernel
theorem dX3_partFrom_53 : decode cX3_partFrom 53 = .ok (.aload_n 0, 1) := by decide +kernel
theorem dX3_partFrom_54 : decode cX3_partFrom 54 = .ok (.iload 6, 2) := by decide +kernel
theorem dX3_partFrom_56 : decode cX3_partFrom 56 = .ok (.putfield 31, 3) := by decide +kernel
theorem dX3_partFrom_59 : decode cX3_partFrom 59 = .ok (.aload_n 0, 1) := by decide +kernel
theorem dX3_partFrom_60 : decode cX3_partFrom 60 = .ok (.bipush 100, 2) := by decide +kernel
theorem dX3_partFrom_62 : decode cX3_partFrom 62 = .ok (.iload_n 1, 1) := by decide +kernel
theorem dX3_partFrom_63 : decode cX3_partFrom 63 = .ok (.imul, 1) := by decide +kernel
theorem dX3_partFrom_64 : decode cX3_partFrom 64 = .ok (.bipush 10, 2) := by decide +kernel
theorem dX3_partFrom_66 : decode cX3_partFrom 66 = .ok (.iload_n 2, 1) := by decide +kernel
theorem dX3_partFrom_67 : decode cX3_partFrom 67 = .ok (.imul, 1) := by decide +kernel
theorem dX3_partFrom_68 : decode cX3_partFrom 68 = .ok (.iadd, 1) := by decide +kernel
theorem dX3_partFrom_69 : decode cX3_partFrom 69 = .ok (.iload 5, 2) := by decide +kernel
theorem dX3_partFrom_71 : decode cX3_partFrom 71 = .ok (.iadd, 1) := by decide +kernel
theorem dX3_partFrom_72 : decode cX3_partFrom 72 = .ok (.putfield 21, 3) := by decide +kernel
theorem dX3_partFrom_75 : decode cX3_partFrom 75 = .ok (.aload_n 0, 1) := by decide +kernel
theorem dX3_partFrom_76 : decode cX3_partFrom 76 = .ok (.iload 4, 2) := by decide +kernel
theorem dX3_partFrom_78 : decode cX3_partFrom 78 = .ok (.putfield 25, 3) := by decide +kernel
theorem dX3_partFrom_81 : decode cX3_partFrom 81 = .ok (.iinc 5 1, 3) := by decide +kernel
theorem dX3_partFrom_84 : decode cX3_partFrom 84 = .ok (.goto (-78), 3) := by decide +kernel
theorem dX3_partFrom_87 : decode cX3_partFrom 87 = .ok (.return_, 1) := by decide +kernel
def F_X3_partFrom_L6 (a0 : Nat) (a1 : Int32) (a2 : Int32) (a3 : Int32) (K87 : aSt → Option aSt) : Nat → Int32 → Int32 → aSt → Option aSt
  | 0, _, _, _ => none
  | fu + 1, l6_4, l6_5, l6S =>
    if (10 : Int32) ≤ l6_5 then (K87 l6S) else
    rfd (l6S.2.2 a0 0) 7 fun k16 =>
    grd (inb l6_5 (SH k16).2) <|
    nm (l6_4 + (l6S.1 k16 l6_5.toNatClampNeg)) fun v23 =>
    nm ((((10 : Int32) * (if 0 ≤ (((2 : Int32) * v23) - a3) then (((2 : Int32) * v23) - a3) else 0 - (((2 : Int32) * v23) - a3))) + l6_5) - a2) fun v42 =>
    jn (fun (j81S : aSt) => (F_X3_partFrom_L6 a0 a1 a2 a3 K87 fu v23 (l6_5 + (1 : Int32)) j81S : Option aSt)) fun K81 =>
    if (l6S.1 a0 6) ≤ v42 then (K81 l6S) else
    nm (stI l6S a0 6 v42) fun S56 =>
    nm (stI S56 a0 3 ((((100 : Int32) * a1) + ((10 : Int32) * a2)) + l6_5)) fun S72 =>
    nm (stI S72 a0 4 v23) fun S78 =>
    K81 S78
def F_X3_partFrom (n : Nat) (S : aSt) (a0 : Nat) (a1 : Int32) (a2 : Int32) (a3 : Int32) : Option aSt :=
jn (fun (x87S : aSt) => (some x87S : Option aSt)) fun K87 =>
F_X3_partFrom_L6 a0 a1 a2 a3 K87 n (0 : Int32) a2 S
set_option maxHeartbeats 4000000 in
set_option maxRecDepth 100000 in
theorem C_X3_partFrom (G : aG) (l : Launch) (n : Nat) (S : aSt) (a0 : Nat) (a1 : Int32) (a2 : Int32) (a3 : Int32) (Sr : aSt) (ha0 : isT a0 2 = true) (hf : F_X3_partFrom n S a0 a1 a2 a3 = some Sr) : Ctr G l yX3_partFrom mX3_partFrom (rmM 1) 97 97 S [.ref a0, .int a1, .int a2, .int a3] none Sr := by
  refine Ctr.of (by decide) rfl rfl (Nat.le_of_ble_eq_true rfl) [(0, .ref a0), (1, .int a1), (2, .int a2), (3, .int a3)] rfl ?_
  unfold F_X3_partFrom at hf
  refine Go.iconst (0 : Int32) 1 rfl dX3_partFrom_0 ci_0 ?_
  refine Go.istore 3 [(4, .int (0 : Int32)), (0, .ref a0), (1, .int a1), (2, .int a2), (3, .int a3)] rfl dX3_partFrom_1 (by decide) rfl ?_
  refine Go.iload_n 3 4 rfl dX3_partFrom_3 rfl ?_
  refine Go.istore 6 [(5, .int a2), (4, .int (0 : Int32)), (0, .ref a0), (1, .int a1), (2, .int a2), (3, .int a3)] rfl dX3_partFrom_4 (by decide) rfl ?_
  obtain ⟨K87, eK87, hf⟩ := f_jn hf
  have J87 : ∀ (x87S : aSt), K87 x87S = some Sr → GoM G l 1 (TmR G none 97 Sr 0 0) mX3_partFrom 87 [] [] x87S := by
    intro x87S hf
    rw [eK87] at hf
    exact Go.vr rfl dX3_partFrom_87 hf
  clear eK87
  have L6 : ∀ (fu : Nat) (l6_4 : Int32) (l6_5 : Int32) (l6S : aSt), F_X3_partFrom_L6 a0 a1 a2 a3 K87 fu l6_4 l6_5 l6S = some Sr → GoM G l 1 (TmR G none 97 Sr 0 0) mX3_partFrom 6 [(0, .ref a0), (1, .int a1), (2, .int a2), (3, .int a3), (4, .int l6_4), (5, .int l6_5)] [] l6S := by
    intro fu
    induction fu with
    | zero => intro l6_4 l6_5 l6S hf; rw [F_X3_partFrom_L6] at hf; cases hf
    | succ fu ih =>
      intro l6_4 l6_5 l6S hf
      rw [F_X3_partFrom_L6] at hf
      refine Go.iload 5 8 rfl dX3_partFrom_6 rfl ?_
      refine Go.bipush (10 : Int32) 10 rfl dX3_partFrom_8 cb_10 ?_
      refine Go.icmp_ge 87 13 rfl dX3_partFrom_10 rfl (fun hc => ?_) (fun hc => ?_)
      · replace hf := f_if hf hc
        exact Go.sub [] [] rfl (J87 l6S hf)
      · replace hf := f_el hf hc
        refine Go.iload 4 15 rfl dX3_partFrom_13 rfl ?_
        refine Go.aload_n 0 16 rfl dX3_partFrom_15 rfl ?_
        obtain ⟨k16, qk16, hk16, hf⟩ := f_rfd hf
        refine Go.getR 19 rfl dX3_partFrom_16 fl_X3_9 rfl (isT_lt ha0) (isT_sh ha0) qk16 ?_
        refine Go.iload 5 21 rfl dX3_partFrom_19 rfl ?_
        obtain ⟨g21, hf⟩ := f_grd hf
        refine Go.iald 22 rfl dX3_partFrom_21 (isT_lt hk16) (isT_sh hk16) g21 ?_
        refine Go.iadd 23 rfl dX3_partFrom_22 ?_
        obtain ⟨v23, ev23, hf⟩ := f_nm hf
        refine Go.topi v23 ev23 ?_
        refine Go.istore 25 [(4, .int v23), (0, .ref a0), (1, .int a1), (2, .int a2), (3, .int a3), (5, .int l6_5)] rfl dX3_partFrom_23 (by decide) rfl ?_
        refine Go.bipush (10 : Int32) 27 rfl dX3_partFrom_25 cb_10 ?_
        refine Go.iconst (2 : Int32) 28 rfl dX3_partFrom_27 ci_2 ?_
        refine Go.iload 0 30 rfl dX3_partFrom_28 rfl ?_
        refine Go.imul 31 rfl dX3_partFrom_30 ?_
        refine Go.iload_n 4 32 rfl dX3_partFrom_31 rfl ?_
        refine Go.isub 33 rfl dX3_partFrom_32 ?_
        refine Go.mabs 36 rfl dX3_partFrom_33 (am_mem 681 (by decide +kernel) rfl) (am_mem 682 (by decide +kernel) rfl) (am_mem 59 (by decide +kernel) rfl) (am_mem 683 (by decide +kernel) rfl) (Nat.le_of_ble_eq_true rfl) ?_
        refine Go.imul 37 rfl dX3_partFrom_36 ?_
        refine Go.iload 5 39 rfl dX3_partFrom_37 rfl ?_
        refine Go.iadd 40 rfl dX3_partFrom_39 ?_
        refine Go.iload_n 3 41 rfl dX3_partFrom_40 rfl ?_
        refine Go.isub 42 rfl dX3_partFrom_41 ?_
        obtain ⟨v42, ev42, hf⟩ := f_nm hf
        refine Go.topi v42 ev42 ?_
        refine Go.istore 44 [(6, .int v42), (4, .int v23), (0, .ref a0), (1, .int a1), (2, .int a2), (3, .int a3), (5, .int l6_5)] rfl dX3_partFrom_42 (by decide) rfl ?_
        refine Go.iload 0 46 rfl dX3_partFrom_44 rfl ?_
        refine Go.aload_n 2 47 rfl dX3_partFrom_46 rfl ?_
        refine Go.getI 50 rfl dX3_partFrom_47 fl_X3_31 rfl (isT_lt ha0) (isT_sh ha0) ?_
        obtain ⟨K81, eK81, hf⟩ := f_jn hf
        have J81 : ∀ (j81S : aSt), K81 j81S = some Sr → GoM G l 1 (TmR G none 97 Sr 0 0) mX3_partFrom 81 [(0, .ref a0), (1, .int a1), (2, .int a2), (3, .int a3), (4, .int v23), (5, .int l6_5)] [] j81S := by
          intro j81S hf
          rw [eK81] at hf
          refine Go.inc 5 84 (1 : Int32) [(5, .int (l6_5 + (1 : Int32))), (0, .ref a0), (1, .int a1), (2, .int a2), (3, .int a3), (4, .int v23)] rfl dX3_partFrom_81 rfl ci_1 (by decide) rfl ?_
          refine Go.goto 6 dX3_partFrom_84 rfl ?_
          exact Go.sub [1, 2, 3, 4, 5, 0] [(0, .ref a0), (1, .int a1), (2, .int a2), (3, .int a3), (4, .int v23), (5, .int (l6_5 + (1 : Int32)))] rfl (ih v23 (l6_5 + (1 : Int32)) j81S hf)
        clear eK81
        refine Go.icmp_ge 81 53 rfl dX3_partFrom_50 rfl (fun hc => ?_) (fun hc => ?_)
        · replace hf := f_if hf hc
          exact Go.sub [2, 3, 4, 5, 1, 6] [(0, .ref a0), (1, .int a1), (2, .int a2), (3, .int a3), (4, .int v23), (5, .int l6_5)] rfl (J81 l6S hf)
        · replace hf := f_el hf hc
          refine Go.aload_n 2 54 rfl dX3_partFrom_53 rfl ?_
          refine Go.iload 0 56 rfl dX3_partFrom_54 rfl ?_
          obtain ⟨S56, eS56, hf⟩ := f_nm hf
          refine Go.putI 59 rfl dX3_partFrom_56 fp_X3_31 rfl (isT_lt ha0) (isT_sh ha0) (fun h => by cases h) (Go.stt S56 eS56 ?_)
          refine Go.aload_n 2 60 rfl dX3_partFrom_59 rfl ?_
          refine Go.bipush (100 : Int32) 62 rfl dX3_partFrom_60 cb_100 ?_
          refine Go.iload_n 3 63 rfl dX3_partFrom_62 rfl ?_
          refine Go.imul 64 rfl dX3_partFrom_63 ?_
          refine Go.bipush (10 : Int32) 66 rfl dX3_partFrom_64 cb_10 ?_
          refine Go.iload_n 4 67 rfl dX3_partFrom_66 rfl ?_
          refine Go.imul 68 rfl dX3_partFrom_67 ?_
          refine Go.iadd 69 rfl dX3_partFrom_68 ?_
          refine Go.iload 6 71 rfl dX3_partFrom_69 rfl ?_
          refine Go.iadd 72 rfl dX3_partFrom_71 ?_
          obtain ⟨S72, eS72, hf⟩ := f_nm hf
          refine Go.putI 75 rfl dX3_partFrom_72 fp_X3_21 rfl (isT_lt ha0) (isT_sh ha0) (fun h => by cases h) (Go.stt S72 eS72 ?_)
          refine Go.aload_n 2 76 rfl dX3_partFrom_75 rfl ?_
          refine Go.iload 1 78 rfl dX3_partFrom_76 rfl ?_
          obtain ⟨S78, eS78, hf⟩ := f_nm hf
          refine Go.putI 81 rfl dX3_partFrom_78 fp_X3_25 rfl (isT_lt ha0) (isT_sh ha0) (fun h => by cases h) (Go.stt S78 eS78 ?_)
          exact Go.sub [2, 3, 4, 5, 1, 6] [(0, .ref a0), (1, .int a1), (2, .int a2), (3, .int a3), (4, .int v23), (5, .int l6_5)] rfl (J81 S78 hf)
  exact Go.sub [2, 3, 4, 5, 1, 0] [(0, .ref a0), (1, .int a1), (2, .int a2), (3, .int a3), (4, .int (0 : Int32)), (5, .int a2)] rfl (L6 n (0 : Int32) a2 S hf)
theorem dX3_partBest_0 : decode cX3_partBest 0 = .ok (.aload_n 0, 1) := by decide +kernel
theorem dX3_partBest_1 : decode cX3_partBest 1 = .ok (.ldc 36, 2) := by decide +kernel
theorem dX3_partBest_3 : decode cX3_partBest 3 = .ok (.putfield 31, 3) := by decide +kernel
theorem dX3_partBest_6 : decode cX3_partBest 6 = .ok (.iconst 0, 1) := by decide +kernel
theorem dX3_partBest_7 : decode cX3_partBest 7 = .ok (.istore_n 2, 1) := by decide +kernel
theorem dX3_partBest_8 : decode cX3_partBest 8 = .ok (.iload_n 2, 1) := by decide +kernel
theorem dX3_partBest_9 : decode cX3_partBest 9 = .ok (.bipush 6, 2) := by decide +kernel
theorem dX3_partBest_11 : decode cX3_partBest 11 = .ok (.if_icmp .ge 39, 3) := by decide +kernel
theorem dX3_partBest_14 : decode cX3_partBest 14 = .ok (.aload_n 0, 1) := by decide +kernel
theorem dX3_partBest_15 : decode cX3_partBest 15 = .ok (.aload_n 1, 1) := by decide +kernel
theorem dX3_partBest_16 : decode cX3_partBest 16 = .ok (.iload_n 2, 1) := by decide +kernel
theorem dX3_partBest_17 : decode cX3_partBest 17 = .ok (.invokevirtual 37, 3) := by decide +kernel
theorem dX3_partBest_20 : decode cX3_partBest 20 = .ok (.iconst 0, 1) := by decide +kernel
theorem dX3_partBest_21 : decode cX3_partBest 21 = .ok (.istore_n 3, 1) := by decide +kernel
theorem dX3_partBest_22 : decode cX3_partBest 22 = .ok (.iload_n 3, 1) := by decide +kernel
theorem dX3_partBest_23 : decode cX3_partBest 23 = .ok (.bipush 10, 2) := by decide +kernel
theorem dX3_partBest_25 : decode cX3_partBest 25 = .ok (.if_icmp .ge 19, 3) := by decide +kernel
theorem dX3_partBest_28 : decode cX3_partBest 28 = .ok (.aload_n 0, 1) := by decide +kernel
theorem dX3_partBest_29 : decode cX3_partBest 29 = .ok (.iload_n 2, 1) := by decide +kernel
theorem dX3_partBest_30 : decode cX3_partBest 30 = .ok (.iload_n 3, 1) := by decide +kernel
theorem dX3_partBest_31 : decode cX3_partBest 31 = .ok (.aload_n 1, 1) := by decide +kernel
theorem dX3_partBest_32 : decode cX3_partBest 32 = .ok (.getfield 41, 3) := by decide +kernel
theorem dX3_partBest_35 : decode cX3_partBest 35 = .ok (.invokevirtual 46, 3) := by decide +kernel
theorem dX3_partBest_38 : decode cX3_partBest 38 = .ok (.iinc 3 1, 3) := by decide +kernel
theorem dX3_partBest_41 : decode cX3_partBest 41 = .ok (.goto (-19), 3) := by decide +kernel
theorem dX3_partBest_44 : decode cX3_partBest 44 = .ok (.iinc 2 1, 3) := by decide +kernel
theorem dX3_partBest_47 : decode cX3_partBest 47 = .ok (.goto (-39), 3) := by decide +kernel
theorem dX3_partBest_50 : decode cX3_partBest 50 = .ok (.return_, 1) := by decide +kernel
def F_X3_partBest_L22 (n : Nat) (a0 : Nat) (a1 : Nat) (l8_2 : Int32) (K44 : aSt → Option aSt) : Nat → Int32 → aSt → Option aSt
  | 0, _, _ => none
  | fu + 1, l22_3, l22S =>
    if (10 : Int32) ≤ l22_3 then (K44 l22S) else
    (F_X3_partFrom n l22S a0 l8_2 l22_3 (l22S.1 a1 7)).bind fun S35 =>
    F_X3_partBest_L22 n a0 a1 l8_2 K44 fu (l22_3 + (1 : Int32)) S35
def F_X3_partBest_L8 (n : Nat) (a0 : Nat) (a1 : Nat) (K50 : aSt → Option aSt) : Nat → Int32 → aSt → Option aSt
  | 0, _, _ => none
  | fu + 1, l8_2, l8S =>
    if (6 : Int32) ≤ l8_2 then (K50 l8S) else
    (F_X3_countMeanings n l8S a0 a1 l8_2).bind fun S17 =>
    jn (fun (x44S : aSt) => (F_X3_partBest_L8 n a0 a1 K50 fu (l8_2 + (1 : Int32)) x44S : Option aSt)) fun K44 =>
    F_X3_partBest_L22 n a0 a1 l8_2 K44 n (0 : Int32) S17
def F_X3_partBest (n : Nat) (S : aSt) (a0 : Nat) (a1 : Nat) : Option aSt :=
nm (stI S a0 6 (2147483647 : Int32)) fun S3 =>
jn (fun (x50S : aSt) => (some x50S : Option aSt)) fun K50 =>
F_X3_partBest_L8 n a0 a1 K50 n (0 : Int32) S3
set_option maxHeartbeats 4000000 in
set_option maxRecDepth 100000 in
theorem C_X3_partBest (G : aG) (l : Launch) (n : Nat) (S : aSt) (a0 : Nat) (a1 : Nat) (Sr : aSt) (ha0 : isT a0 2 = true) (ha1 : isT a1 0 = true) (hf : F_X3_partBest n S a0 a1 = some Sr) : Ctr G l yX3_partBest mX3_partBest (rmM 4) 97 97 S [.ref a0, .ref a1] none Sr := by
  refine Ctr.of (by decide) rfl rfl (Nat.le_of_ble_eq_true rfl) [(0, .ref a0), (1, .ref a1)] rfl ?_
  unfold F_X3_partBest at hf
  refine Go.aload_n 0 1 rfl dX3_partBest_0 rfl ?_
  refine Go.ldc (2147483647 : Int32) 3 rfl dX3_partBest_1 (am_mem 669 (by decide +kernel) rfl) ?_
  obtain ⟨S3, eS3, hf⟩ := f_nm hf
  refine Go.putI 6 rfl dX3_partBest_3 fp_X3_31 rfl (isT_lt ha0) (isT_sh ha0) (fun h => by cases h) (Go.stt S3 eS3 ?_)
  refine Go.iconst (0 : Int32) 7 rfl dX3_partBest_6 ci_0 ?_
  refine Go.istore_n 8 [(2, .int (0 : Int32)), (0, .ref a0), (1, .ref a1)] rfl dX3_partBest_7 (by decide) rfl ?_
  obtain ⟨K50, eK50, hf⟩ := f_jn hf
  have J50 : ∀ (x50S : aSt), K50 x50S = some Sr → GoM G l 4 (TmR G none 97 Sr 0 0) mX3_partBest 50 [] [] x50S := by
    intro x50S hf
    rw [eK50] at hf
    exact Go.vr rfl dX3_partBest_50 hf
  clear eK50
  have L8 : ∀ (fu : Nat) (l8_2 : Int32) (l8S : aSt), F_X3_partBest_L8 n a0 a1 K50 fu l8_2 l8S = some Sr → GoM G l 4 (TmR G none 97 Sr 0 0) mX3_partBest 8 [(0, .ref a0), (1, .ref a1), (2, .int l8_2)] [] l8S := by
    intro fu
    induction fu with
    | zero => intro l8_2 l8S hf; rw [F_X3_partBest_L8] at hf; cases hf
    | succ fu ih =>
      intro l8_2 l8S hf
      rw [F_X3_partBest_L8] at hf
      refine Go.iload_n 2 9 rfl dX3_partBest_8 rfl ?_
      refine Go.bipush (6 : Int32) 11 rfl dX3_partBest_9 cb_6 ?_
      refine Go.icmp_ge 50 14 rfl dX3_partBest_11 rfl (fun hc => ?_) (fun hc => ?_)
      · replace hf := f_if hf hc
        exact Go.sub [] [] rfl (J50 l8S hf)
      · replace hf := f_el hf hc
        refine Go.aload_n 0 15 rfl dX3_partBest_14 rfl ?_
        refine Go.aload_n 1 16 rfl dX3_partBest_15 rfl ?_
        refine Go.iload_n 2 17 rfl dX3_partBest_16 rfl ?_
        obtain ⟨S17, eS17, hf⟩ := f_bnd hf
        refine Go.cVv 20 [.ref a1, .int l8_2] [] (C_X3_countMeanings G l n l8S a0 a1 l8_2 S17 ha0 ha1 eS17) rfl dX3_partBest_17 cv_X3_37 ha0 (by decide) (by decide) rfl (Nat.le_of_ble_eq_true rfl) ?_
        refine Go.iconst (0 : Int32) 21 rfl dX3_partBest_20 ci_0 ?_
        refine Go.istore_n 22 [(3, .int (0 : Int32)), (0, .ref a0), (1, .ref a1), (2, .int l8_2)] rfl dX3_partBest_21 (by decide) rfl ?_
        obtain ⟨K44, eK44, hf⟩ := f_jn hf
        have J44 : ∀ (x44S : aSt), K44 x44S = some Sr → GoM G l 4 (TmR G none 97 Sr 0 0) mX3_partBest 44 [(0, .ref a0), (1, .ref a1), (2, .int l8_2)] [] x44S := by
          intro x44S hf
          rw [eK44] at hf
          refine Go.inc 2 47 (1 : Int32) [(2, .int (l8_2 + (1 : Int32))), (0, .ref a0), (1, .ref a1)] rfl dX3_partBest_44 rfl ci_1 (by decide) rfl ?_
          refine Go.goto 8 dX3_partBest_47 rfl ?_
          exact Go.sub [1, 2, 0] [(0, .ref a0), (1, .ref a1), (2, .int (l8_2 + (1 : Int32)))] rfl (ih (l8_2 + (1 : Int32)) x44S hf)
        clear eK44
        have L22 : ∀ (fu : Nat) (l22_3 : Int32) (l22S : aSt), F_X3_partBest_L22 n a0 a1 l8_2 K44 fu l22_3 l22S = some Sr → GoM G l 4 (TmR G none 97 Sr 0 0) mX3_partBest 22 [(0, .ref a0), (1, .ref a1), (2, .int l8_2), (3, .int l22_3)] [] l22S := by
          intro fu
          induction fu with
          | zero => intro l22_3 l22S hf; rw [F_X3_partBest_L22] at hf; cases hf
          | succ fu ih =>
            intro l22_3 l22S hf
            rw [F_X3_partBest_L22] at hf
            refine Go.iload_n 3 23 rfl dX3_partBest_22 rfl ?_
            refine Go.bipush (10 : Int32) 25 rfl dX3_partBest_23 cb_10 ?_
            refine Go.icmp_ge 44 28 rfl dX3_partBest_25 rfl (fun hc => ?_) (fun hc => ?_)
            · replace hf := f_if hf hc
              exact Go.sub [0, 1, 2] [(0, .ref a0), (1, .ref a1), (2, .int l8_2)] rfl (J44 l22S hf)
            · replace hf := f_el hf hc
              refine Go.aload_n 0 29 rfl dX3_partBest_28 rfl ?_
              refine Go.iload_n 2 30 rfl dX3_partBest_29 rfl ?_
              refine Go.iload_n 3 31 rfl dX3_partBest_30 rfl ?_
              refine Go.aload_n 1 32 rfl dX3_partBest_31 rfl ?_
              refine Go.getI 35 rfl dX3_partBest_32 fl_X3_41 rfl (isT_lt ha1) (isT_sh ha1) ?_
              obtain ⟨S35, eS35, hf⟩ := f_bnd hf
              refine Go.cVv 38 [.int l8_2, .int l22_3, .int (l22S.1 a1 7)] [] (C_X3_partFrom G l n l22S a0 l8_2 l22_3 (l22S.1 a1 7) S35 ha0 eS35) rfl dX3_partBest_35 cv_X3_46 ha0 (by decide) (by decide) rfl (Nat.le_of_ble_eq_true rfl) ?_
              refine Go.inc 3 41 (1 : Int32) [(3, .int (l22_3 + (1 : Int32))), (0, .ref a0), (1, .ref a1), (2, .int l8_2)] rfl dX3_partBest_38 rfl ci_1 (by decide) rfl ?_
              refine Go.goto 22 dX3_partBest_41 rfl ?_
              exact Go.sub [1, 2, 3, 0] [(0, .ref a0), (1, .ref a1), (2, .int l8_2), (3, .int (l22_3 + (1 : Int32)))] rfl (ih (l22_3 + (1 : Int32)) S35 hf)
        exact Go.sub [1, 2, 3, 0] [(0, .ref a0), (1, .ref a1), (2, .int l8_2), (3, .int (0 : Int32))] rfl (L22 n (0 : Int32) S17 hf)
  exact Go.sub [1, 2, 0] [(0, .ref a0), (1, .ref a1), (2, .int (0 : Int32))] rfl (L8 n (0 : Int32) S3 hf)
theorem dX3_fewestFor_0 : decode cX3_fewestFor 0 = .ok (.aload_n 0, 1) := by decide +kernel
theorem dX3_fewestFor_1 : decode cX3_fewestFor 1 = .ok (.bipush (-9), 2) := by decide +kernel
theorem dX3_fewestFor_3 : decode cX3_fewestFor 3 = .ok (.putfield 21, 3) := by decide +kernel
theorem dX3_fewestFor_6 : decode cX3_fewestFor 6 = .ok (.iload_n 1, 1) := by decide +kernel
theorem dX3_fewestFor_7 : decode cX3_fewestFor 7 = .ok (.invokestatic 84, 3) := by decide +kernel
theorem dX3_fewestFor_10 : decode cX3_fewestFor 10 = .ok (.iconst 1, 1) := by decide +kernel
theorem dX3_fewestFor_11 : decode cX3_fewestFor 11 = .ok (.if_icmp .ne 5, 3) := by decide +kernel
theorem dX3_fewestFor_14 : decode cX3_fewestFor 14 = .ok (.iconst 0, 1) := by decide +kernel
theorem dX3_fewestFor_15 : decode cX3_fewestFor 15 = .ok (.ireturn, 1) := by decide +kernel
theorem dX3_fewestFor_16 : decode cX3_fewestFor 16 = .ok (.bipush (-9), 2) := by decide +kernel
theorem dX3_fewestFor_18 : decode cX3_fewestFor 18 = .ok (.istore_n 3, 1) := by decide +kernel
theorem dX3_fewestFor_19 : decode cX3_fewestFor 19 = .ok (.iconst 0, 1) := by decide +kernel
theorem dX3_fewestFor_20 : decode cX3_fewestFor 20 = .ok (.istore 4, 2) := by decide +kernel
theorem dX3_fewestFor_22 : decode cX3_fewestFor 22 = .ok (.iload 4, 2) := by decide +kernel
theorem dX3_fewestFor_24 : decode cX3_fewestFor 24 = .ok (.iload_n 2, 1) := by decide +kernel
theorem dX3_fewestFor_25 : decode cX3_fewestFor 25 = .ok (.if_icmp .ge 109, 3) := by decide +kernel
theorem dX3_fewestFor_28 : decode cX3_fewestFor 28 = .ok (.iload_n 1, 1) := by decide +kernel
theorem dX3_fewestFor_29 : decode cX3_fewestFor 29 = .ok (.aload_n 0, 1) := by decide +kernel
theorem dX3_fewestFor_30 : decode cX3_fewestFor 30 = .ok (.getfield 15, 3) := by decide +kernel
theorem dX3_fewestFor_33 : decode cX3_fewestFor 33 = .ok (.iload 4, 2) := by decide +kernel
theorem dX3_fewestFor_35 : decode cX3_fewestFor 35 = .ok (.iaload, 1) := by decide +kernel
theorem dX3_fewestFor_36 : decode cX3_fewestFor 36 = .ok (.iand, 1) := by decide +kernel
theorem dX3_fewestFor_37 : decode cX3_fewestFor 37 = .ok (.istore 5, 2) := by decide +kernel
theorem dX3_fewestFor_39 : decode cX3_fewestFor 39 = .ok (.iload_n 1, 1) := by decide +kernel
theorem dX3_fewestFor_40 : decode cX3_fewestFor 40 = .ok (.aload_n 0, 1) := by decide +kernel
theorem dX3_fewestFor_41 : decode cX3_fewestFor 41 = .ok (.getfield 15, 3) := by decide +kernel
theorem dX3_fewestFor_44 : decode cX3_fewestFor 44 = .ok (.iload 4, 2) := by decide +kernel
theorem dX3_fewestFor_46 : decode cX3_fewestFor 46 = .ok (.iaload, 1) := by decide +kernel
theorem dX3_fewestFor_47 : decode cX3_fewestFor 47 = .ok (.iconst (-1), 1) := by decide +kernel
theorem dX3_fewestFor_48 : decode cX3_fewestFor 48 = .ok (.ixor, 1) := by decide +kernel
theorem dX3_fewestFor_49 : decode cX3_fewestFor 49 = .ok (.iand, 1) := by decide +kernel
theorem dX3_fewestFor_50 : decode cX3_fewestFor 50 = .ok (.istore 6, 2) := by decide +kernel
theorem dX3_fewestFor_52 : decode cX3_fewestFor 52 = .ok (.iload 5, 2) := by decide +kernel
theorem dX3_fewestFor_54 : decode cX3_fewestFor 54 = .ok (.ifCond .eq 74, 3) := by decide +kernel
theorem dX3_fewestFor_57 : decode cX3_fewestFor 57 = .ok (.iload 6, 2) := by decide +kernel
theorem dX3_fewestFor_59 : decode cX3_fewestFor 59 = .ok (.ifCond .eq 69, 3) := by decide +kernel
theorem dX3_fewestFor_62 : decode cX3_fewestFor 62 = .ok (.aload_n 0, 1) := by decide +kernel
theorem dX3_fewestFor_63 : decode cX3_fewestFor 63 = .ok (.getfield 18, 3) := by decide +kernel
theorem dX3_fewestFor_66 : decode cX3_fewestFor 66 = .ok (.iload 5, 2) := by decide +kernel
theorem dX3_fewestFor_68 : decode cX3_fewestFor 68 = .ok (.iaload, 1) := by decide +kernel
theorem dX3_fewestFor_69 : decode cX3_fewestFor 69 = .ok (.bipush (-9), 2) := by decide +kernel
theorem dX3_fewestFor_71 : decode cX3_fewestFor 71 = .ok (.if_icmp .eq 57, 3) := by decide +kernel
theorem dX3_fewestFor_74 : decode cX3_fewestFor 74 = .ok (.aload_n 0, 1) := by decide +kernel
theorem dX3_fewestFor_75 : decode cX3_fewestFor 75 = .ok (.getfield 18, 3) := by decide +kernel
theorem dX3_fewestFor_78 : decode cX3_fewestFor 78 = .ok (.iload 6, 2) := by decide +kernel
theorem dX3_fewestFor_80 : decode cX3_fewestFor 80 = .ok (.iaload, 1) := by decide +kernel
theorem dX3_fewestFor_81 : decode cX3_fewestFor 81 = .ok (.bipush (-9), 2) := by decide +kernel
theorem dX3_fewestFor_83 : decode cX3_fewestFor 83 = .ok (.if_icmp .eq 45, 3) := by decide +kernel
theorem dX3_fewestFor_86 : decode cX3_fewestFor 86 = .ok (.iconst 1, 1) := by decide +kernel
theorem dX3_fewestFor_87 : decode cX3_fewestFor 87 = .ok (.aload_n 0, 1) := by decide +kernel
theorem dX3_fewestFor_88 : decode cX3_fewestFor 88 = .ok (.getfield 18, 3) := by decide +kernel
theorem dX3_fewestFor_91 : decode cX3_fewestFor 91 = .ok (.iload 5, 2) := by decide +kernel
theorem dX3_fewestFor_93 : decode cX3_fewestFor 93 = .ok (.iaload, 1) := by decide +kernel
theorem dX3_fewestFor_94 : decode cX3_fewestFor 94 = .ok (.aload_n 0, 1) := by decide +kernel
theorem dX3_fewestFor_95 : decode cX3_fewestFor 95 = .ok (.getfield 18, 3) := by decide +kernel
theorem dX3_fewestFor_98 : decode cX3_fewestFor 98 = .ok (.iload 6, 2) := by decide +kernel
theorem dX3_fewestFor_100 : decode cX3_fewestFor 100 = .ok (.iaload, 1) := by decide +kernel
theorem dX3_fewestFor_101 : decode cX3_fewestFor 101 = .ok (.invokestatic 87, 3) := by decide +kernel
theorem dX3_fewestFor_104 : decode cX3_fewestFor 104 = .ok (.iadd, 1) := by decide +kernel
theorem dX3_fewestFor_105 : decode cX3_fewestFor 105 = .ok (.istore 7, 2) := by decide +kernel
theorem dX3_fewestFor_107 : decode cX3_fewestFor 107 = .ok (.iload_n 3, 1) := by decide +kernel
theorem dX3_fewestFor_108 : decode cX3_fewestFor 108 = .ok (.bipush (-9), 2) := by decide +kernel
theorem dX3_fewestFor_110 : decode cX3_fewestFor 110 = .ok (.if_icmp .eq 9, 3) := by decide +kernel
theorem dX3_fewestFor_113 : decode cX3_fewestFor 113 = .ok (.iload 7, 2) := by decide +kernel
theorem dX3_fewestFor_115 : decode cX3_fewestFor 115 = .ok (.iload_n 3, 1) := by decide +kernel
theorem dX3_fewestFor_116 : decode cX3_fewestFor 116 = .ok (.if_icmp .ge 12, 3) := by decide +kernel
theorem dX3_fewestFor_119 : decode cX3_fewestFor 119 = .ok (.iload 7, 2) := by decide +kernel
theorem dX3_fewestFor_121 : decode cX3_fewestFor 121 = .ok (.istore_n 3, 1) := by decide +kernel
theorem dX3_fewestFor_122 : decode cX3_fewestFor 122 = .ok (.aload_n 0, 1) := by decide +kernel
theorem dX3_fewestFor_123 : decode cX3_fewestFor 123 = .ok (.iload 4, 2) := by decide +kernel
theorem dX3_fewestFor_125 : decode cX3_fewestFor 125 = .ok (.putfield 21, 3) := by decide +kernel
theorem dX3_fewestFor_128 : decode cX3_fewestFor 128 = .ok (.iinc 4 1, 3) := by decide +kernel
theorem dX3_fewestFor_131 : decode cX3_fewestFor 131 = .ok (.goto (-109), 3) := by decide +kernel
theorem dX3_fewestFor_134 : decode cX3_fewestFor 134 = .ok (.iload_n 3, 1) := by decide +kernel
theorem dX3_fewestFor_135 : decode cX3_fewestFor 135 = .ok (.ireturn, 1) := by decide +kernel
def F_X3_fewestFor_L22 (a0 : Nat) (a1 : Int32) (a2 : Int32) (K134 : Int32 → aSt → Option (Int32 × aSt)) : Nat → Int32 → Int32 → aSt → Option (Int32 × aSt)
  | 0, _, _, _ => none
  | fu + 1, l22_3, l22_4, l22S =>
    if a2 ≤ l22_4 then (K134 l22_3 l22S) else
    rfd (l22S.2.2 a0 1) 7 fun k30 =>
    grd (inb l22_4 (SH k30).2) <|
    nm (a1 &&& (l22S.1 k30 l22_4.toNatClampNeg)) fun v37 =>
    grd (inb l22_4 (SH k30).2) <|
    nm (a1 &&& ((l22S.1 k30 l22_4.toNatClampNeg) ^^^ (-1 : Int32))) fun v50 =>
    jn (fun (j128_3 : Int32) (j128S : aSt) => (F_X3_fewestFor_L22 a0 a1 a2 K134 fu j128_3 (l22_4 + (1 : Int32)) j128S : Option (Int32 × aSt))) fun K128 =>
    if v37 = 0 then (K128 l22_3 l22S) else
    if v50 = 0 then (K128 l22_3 l22S) else
    rfd (l22S.2.2 a0 2) 7 fun k63 =>
    grd (inb v37 (SH k63).2) <|
    if (l22S.1 k63 v37.toNatClampNeg) = (-9 : Int32) then (K128 l22_3 l22S) else
    grd (inb v50 (SH k63).2) <|
    if (l22S.1 k63 v50.toNatClampNeg) = (-9 : Int32) then (K128 l22_3 l22S) else
    grd (inb v37 (SH k63).2) <|
    grd (inb v50 (SH k63).2) <|
    nm ((1 : Int32) + (if (l22S.1 k63 v37.toNatClampNeg) < (l22S.1 k63 v50.toNatClampNeg) then (l22S.1 k63 v50.toNatClampNeg) else (l22S.1 k63 v37.toNatClampNeg))) fun v105 =>
    jn ((nm (stI l22S a0 3 l22_4) fun S125 =>
    K128 v105 S125 : Option (Int32 × aSt))) fun K119 =>
    if l22_3 = (-9 : Int32) then (K119) else
    if l22_3 ≤ v105 then (K128 l22_3 l22S) else
    K119
def F_X3_fewestFor (n : Nat) (S : aSt) (a0 : Nat) (a1 : Int32) (a2 : Int32) : Option (Int32 × aSt) :=
nm (stI S a0 3 (-9 : Int32)) fun S3 =>
(F_J6_bitCount_0f7a4 n S3 a1).bind fun r7 =>
if r7 = (1 : Int32) then (some ((0 : Int32), S3)) else
jn (fun (x134_3 : Int32) (x134S : aSt) => (some (x134_3, x134S) : Option (Int32 × aSt))) fun K134 =>
F_X3_fewestFor_L22 a0 a1 a2 K134 n (-9 : Int32) (0 : Int32) S3
set_option maxHeartbeats 4000000 in
set_option maxRecDepth 100000 in
theorem C_X3_fewestFor (G : aG) (l : Launch) (n : Nat) (S : aSt) (a0 : Nat) (a1 : Int32) (a2 : Int32) (r : Int32) (Sr : aSt) (ha0 : isT a0 2 = true) (hf : F_X3_fewestFor n S a0 a1 a2 = some (r, Sr)) : Ctr G l yX3_fewestFor mX3_fewestFor (rmM 2) 97 97 S [.ref a0, .int a1, .int a2] (some (.int r)) Sr := by
  refine Ctr.of (by decide) rfl rfl (Nat.le_of_ble_eq_true rfl) [(0, .ref a0), (1, .int a1), (2, .int a2)] rfl ?_
  unfold F_X3_fewestFor at hf
  refine Go.aload_n 0 1 rfl dX3_fewestFor_0 rfl ?_
  refine Go.bipush (-9 : Int32) 3 rfl dX3_fewestFor_1 cb_m9 ?_
  obtain ⟨S3, eS3, hf⟩ := f_nm hf
  refine Go.putI 6 rfl dX3_fewestFor_3 fp_X3_21 rfl (isT_lt ha0) (isT_sh ha0) (fun h => by cases h) (Go.stt S3 eS3 ?_)
  refine Go.iload_n 1 7 rfl dX3_fewestFor_6 rfl ?_
  obtain ⟨r7, er7, hf⟩ := f_bnd hf
  refine Go.cS 10 [.int a1] [] (C_J6_bitCount_0f7a4 G l n S3 a1 r7  er7) rfl dX3_fewestFor_7 cx_X3_84 (by decide) (by decide) rfl (Nat.le_of_ble_eq_true rfl) ?_
  refine Go.iconst (1 : Int32) 11 rfl dX3_fewestFor_10 ci_1 ?_
  refine Go.icmp_ne 16 14 rfl dX3_fewestFor_11 rfl (fun hc => ?_) (fun hc => ?_)
  · replace hf := f_el hf hc
    refine Go.bipush (-9 : Int32) 18 rfl dX3_fewestFor_16 cb_m9 ?_
    refine Go.istore_n 19 [(3, .int (-9 : Int32)), (0, .ref a0), (1, .int a1), (2, .int a2)] rfl dX3_fewestFor_18 (by decide) rfl ?_
    refine Go.iconst (0 : Int32) 20 rfl dX3_fewestFor_19 ci_0 ?_
    refine Go.istore 22 [(4, .int (0 : Int32)), (3, .int (-9 : Int32)), (0, .ref a0), (1, .int a1), (2, .int a2)] rfl dX3_fewestFor_20 (by decide) rfl ?_
    obtain ⟨K134, eK134, hf⟩ := f_jn hf
    have J134 : ∀ (x134_3 : Int32) (x134S : aSt), K134 x134_3 x134S = some (r, Sr) → GoM G l 2 (TmR G (some (.int r)) 97 Sr 0 0) mX3_fewestFor 134 [(3, .int x134_3)] [] x134S := by
      intro x134_3 x134S hf
      rw [eK134] at hf
      refine Go.iload_n 0 135 rfl dX3_fewestFor_134 rfl ?_
      exact Go.irS rfl dX3_fewestFor_135 hf
    clear eK134
    have L22 : ∀ (fu : Nat) (l22_3 : Int32) (l22_4 : Int32) (l22S : aSt), F_X3_fewestFor_L22 a0 a1 a2 K134 fu l22_3 l22_4 l22S = some (r, Sr) → GoM G l 2 (TmR G (some (.int r)) 97 Sr 0 0) mX3_fewestFor 22 [(0, .ref a0), (1, .int a1), (2, .int a2), (3, .int l22_3), (4, .int l22_4)] [] l22S := by
      intro fu
      induction fu with
      | zero => intro l22_3 l22_4 l22S hf; rw [F_X3_fewestFor_L22] at hf; cases hf
      | succ fu ih =>
        intro l22_3 l22_4 l22S hf
        rw [F_X3_fewestFor_L22] at hf
        refine Go.iload 4 24 rfl dX3_fewestFor_22 rfl ?_
        refine Go.iload_n 2 25 rfl dX3_fewestFor_24 rfl ?_
        refine Go.icmp_ge 134 28 rfl dX3_fewestFor_25 rfl (fun hc => ?_) (fun hc => ?_)
        · replace hf := f_if hf hc
          exact Go.sub [3] [(3, .int l22_3)] rfl (J134 l22_3 l22S hf)
        · replace hf := f_el hf hc
          refine Go.iload_n 1 29 rfl dX3_fewestFor_28 rfl ?_
          refine Go.aload_n 0 30 rfl dX3_fewestFor_29 rfl ?_
          obtain ⟨k30, qk30, hk30, hf⟩ := f_rfd hf
          refine Go.getR 33 rfl dX3_fewestFor_30 fl_X3_15 rfl (isT_lt ha0) (isT_sh ha0) qk30 ?_
          refine Go.iload 4 35 rfl dX3_fewestFor_33 rfl ?_
          obtain ⟨g35, hf⟩ := f_grd hf
          refine Go.iald 36 rfl dX3_fewestFor_35 (isT_lt hk30) (isT_sh hk30) g35 ?_
          refine Go.iand 37 rfl dX3_fewestFor_36 ?_
          obtain ⟨v37, ev37, hf⟩ := f_nm hf
          refine Go.topi v37 ev37 ?_
          refine Go.istore 39 [(5, .int v37), (0, .ref a0), (1, .int a1), (2, .int a2), (3, .int l22_3), (4, .int l22_4)] rfl dX3_fewestFor_37 (by decide) rfl ?_
          refine Go.iload_n 2 40 rfl dX3_fewestFor_39 rfl ?_
          refine Go.aload_n 1 41 rfl dX3_fewestFor_40 rfl ?_
          refine Go.getR 44 rfl dX3_fewestFor_41 fl_X3_15 rfl (isT_lt ha0) (isT_sh ha0) qk30 ?_
          refine Go.iload 5 46 rfl dX3_fewestFor_44 rfl ?_
          obtain ⟨g46, hf⟩ := f_grd hf
          refine Go.iald 47 rfl dX3_fewestFor_46 (isT_lt hk30) (isT_sh hk30) g46 ?_
          refine Go.iconst (-1 : Int32) 48 rfl dX3_fewestFor_47 ci_m1 ?_
          refine Go.ixor 49 rfl dX3_fewestFor_48 ?_
          refine Go.iand 50 rfl dX3_fewestFor_49 ?_
          obtain ⟨v50, ev50, hf⟩ := f_nm hf
          refine Go.topi v50 ev50 ?_
          refine Go.istore 52 [(6, .int v50), (5, .int v37), (0, .ref a0), (1, .int a1), (2, .int a2), (3, .int l22_3), (4, .int l22_4)] rfl dX3_fewestFor_50 (by decide) rfl ?_
          refine Go.iload 1 54 rfl dX3_fewestFor_52 rfl ?_
          obtain ⟨K128, eK128, hf⟩ := f_jn hf
          have J128 : ∀ (j128_3 : Int32) (j128S : aSt), K128 j128_3 j128S = some (r, Sr) → GoM G l 2 (TmR G (some (.int r)) 97 Sr 0 0) mX3_fewestFor 128 [(0, .ref a0), (1, .int a1), (2, .int a2), (3, .int j128_3), (4, .int l22_4)] [] j128S := by
            intro j128_3 j128S hf
            rw [eK128] at hf
            refine Go.inc 4 131 (1 : Int32) [(4, .int (l22_4 + (1 : Int32))), (0, .ref a0), (1, .int a1), (2, .int a2), (3, .int j128_3)] rfl dX3_fewestFor_128 rfl ci_1 (by decide) rfl ?_
            refine Go.goto 22 dX3_fewestFor_131 rfl ?_
            exact Go.sub [1, 2, 3, 4, 0] [(0, .ref a0), (1, .int a1), (2, .int a2), (3, .int j128_3), (4, .int (l22_4 + (1 : Int32)))] rfl (ih j128_3 (l22_4 + (1 : Int32)) j128S hf)
          clear eK128
          refine Go.if_eq 128 57 rfl dX3_fewestFor_54 rfl (fun hc => ?_) (fun hc => ?_)
          · replace hf := f_if hf hc
            exact Go.sub [2, 3, 4, 5, 6] [(0, .ref a0), (1, .int a1), (2, .int a2), (3, .int l22_3), (4, .int l22_4)] rfl (J128 l22_3 l22S hf)
          · replace hf := f_el hf hc
            refine Go.iload 0 59 rfl dX3_fewestFor_57 rfl ?_
            refine Go.if_eq 128 62 rfl dX3_fewestFor_59 rfl (fun hc => ?_) (fun hc => ?_)
            · replace hf := f_if hf hc
              exact Go.sub [2, 3, 4, 5, 6] [(0, .ref a0), (1, .int a1), (2, .int a2), (3, .int l22_3), (4, .int l22_4)] rfl (J128 l22_3 l22S hf)
            · replace hf := f_el hf hc
              refine Go.aload_n 2 63 rfl dX3_fewestFor_62 rfl ?_
              obtain ⟨k63, qk63, hk63, hf⟩ := f_rfd hf
              refine Go.getR 66 rfl dX3_fewestFor_63 fl_X3_18 rfl (isT_lt ha0) (isT_sh ha0) qk63 ?_
              refine Go.iload 1 68 rfl dX3_fewestFor_66 rfl ?_
              obtain ⟨g68, hf⟩ := f_grd hf
              refine Go.iald 69 rfl dX3_fewestFor_68 (isT_lt hk63) (isT_sh hk63) g68 ?_
              refine Go.bipush (-9 : Int32) 71 rfl dX3_fewestFor_69 cb_m9 ?_
              refine Go.icmp_eq 128 74 rfl dX3_fewestFor_71 rfl (fun hc => ?_) (fun hc => ?_)
              · replace hf := f_if hf hc
                exact Go.sub [2, 3, 4, 5, 6] [(0, .ref a0), (1, .int a1), (2, .int a2), (3, .int l22_3), (4, .int l22_4)] rfl (J128 l22_3 l22S hf)
              · replace hf := f_el hf hc
                refine Go.aload_n 2 75 rfl dX3_fewestFor_74 rfl ?_
                refine Go.getR 78 rfl dX3_fewestFor_75 fl_X3_18 rfl (isT_lt ha0) (isT_sh ha0) qk63 ?_
                refine Go.iload 0 80 rfl dX3_fewestFor_78 rfl ?_
                obtain ⟨g80, hf⟩ := f_grd hf
                refine Go.iald 81 rfl dX3_fewestFor_80 (isT_lt hk63) (isT_sh hk63) g80 ?_
                refine Go.bipush (-9 : Int32) 83 rfl dX3_fewestFor_81 cb_m9 ?_
                refine Go.icmp_eq 128 86 rfl dX3_fewestFor_83 rfl (fun hc => ?_) (fun hc => ?_)
                · replace hf := f_if hf hc
                  exact Go.sub [2, 3, 4, 5, 6] [(0, .ref a0), (1, .int a1), (2, .int a2), (3, .int l22_3), (4, .int l22_4)] rfl (J128 l22_3 l22S hf)
                · replace hf := f_el hf hc
                  refine Go.iconst (1 : Int32) 87 rfl dX3_fewestFor_86 ci_1 ?_
                  refine Go.aload_n 2 88 rfl dX3_fewestFor_87 rfl ?_
                  refine Go.getR 91 rfl dX3_fewestFor_88 fl_X3_18 rfl (isT_lt ha0) (isT_sh ha0) qk63 ?_
                  refine Go.iload 1 93 rfl dX3_fewestFor_91 rfl ?_
                  obtain ⟨g93, hf⟩ := f_grd hf
                  refine Go.iald 94 rfl dX3_fewestFor_93 (isT_lt hk63) (isT_sh hk63) g93 ?_
                  refine Go.aload_n 2 95 rfl dX3_fewestFor_94 rfl ?_
                  refine Go.getR 98 rfl dX3_fewestFor_95 fl_X3_18 rfl (isT_lt ha0) (isT_sh ha0) qk63 ?_
                  refine Go.iload 0 100 rfl dX3_fewestFor_98 rfl ?_
                  obtain ⟨g100, hf⟩ := f_grd hf
                  refine Go.iald 101 rfl dX3_fewestFor_100 (isT_lt hk63) (isT_sh hk63) g100 ?_
                  refine Go.mmax 104 rfl dX3_fewestFor_101 (am_mem 698 (by decide +kernel) rfl) (am_mem 237 (by decide +kernel) rfl) (am_mem 59 (by decide +kernel) rfl) (am_mem 238 (by decide +kernel) rfl) (Nat.le_of_ble_eq_true rfl) ?_
                  refine Go.iadd 105 rfl dX3_fewestFor_104 ?_
                  obtain ⟨v105, ev105, hf⟩ := f_nm hf
                  refine Go.topi v105 ev105 ?_
                  refine Go.istore 107 [(7, .int v105), (6, .int v50), (5, .int v37), (0, .ref a0), (1, .int a1), (2, .int a2), (3, .int l22_3), (4, .int l22_4)] rfl dX3_fewestFor_105 (by decide) rfl ?_
                  refine Go.iload_n 6 108 rfl dX3_fewestFor_107 rfl ?_
                  refine Go.bipush (-9 : Int32) 110 rfl dX3_fewestFor_108 cb_m9 ?_
                  obtain ⟨K119, eK119, hf⟩ := f_jn hf
                  have J119 : K119 = some (r, Sr) → GoM G l 2 (TmR G (some (.int r)) 97 Sr 0 0) mX3_fewestFor 119 [(0, .ref a0), (1, .int a1), (2, .int a2), (4, .int l22_4), (7, .int v105)] [] l22S := by
                    intro hf
                    rw [eK119] at hf
                    refine Go.iload 4 121 rfl dX3_fewestFor_119 rfl ?_
                    refine Go.istore_n 122 [(3, .int v105), (0, .ref a0), (1, .int a1), (2, .int a2), (4, .int l22_4), (7, .int v105)] rfl dX3_fewestFor_121 (by decide) rfl ?_
                    refine Go.aload_n 1 123 rfl dX3_fewestFor_122 rfl ?_
                    refine Go.iload 4 125 rfl dX3_fewestFor_123 rfl ?_
                    obtain ⟨S125, eS125, hf⟩ := f_nm hf
                    refine Go.putI 128 rfl dX3_fewestFor_125 fp_X3_21 rfl (isT_lt ha0) (isT_sh ha0) (fun h => by cases h) (Go.stt S125 eS125 ?_)
                    exact Go.sub [1, 2, 3, 0, 4] [(0, .ref a0), (1, .int a1), (2, .int a2), (3, .int v105), (4, .int l22_4)] rfl (J128 v105 S125 hf)
                  clear eK119
                  refine Go.icmp_eq 119 113 rfl dX3_fewestFor_110 rfl (fun hc => ?_) (fun hc => ?_)
                  · replace hf := f_if hf hc
                    exact Go.sub [3, 4, 5, 7, 0] [(0, .ref a0), (1, .int a1), (2, .int a2), (4, .int l22_4), (7, .int v105)] rfl (J119 hf)
                  · replace hf := f_el hf hc
                    refine Go.iload 0 115 rfl dX3_fewestFor_113 rfl ?_
                    refine Go.iload_n 6 116 rfl dX3_fewestFor_115 rfl ?_
                    refine Go.icmp_ge 128 119 rfl dX3_fewestFor_116 rfl (fun hc => ?_) (fun hc => ?_)
                    · replace hf := f_if hf hc
                      exact Go.sub [3, 4, 5, 6, 7] [(0, .ref a0), (1, .int a1), (2, .int a2), (3, .int l22_3), (4, .int l22_4)] rfl (J128 l22_3 l22S hf)
                    · replace hf := f_el hf hc
                      exact Go.sub [3, 4, 5, 7, 0] [(0, .ref a0), (1, .int a1), (2, .int a2), (4, .int l22_4), (7, .int v105)] rfl (J119 hf)
    exact Go.sub [2, 3, 4, 1, 0] [(0, .ref a0), (1, .int a1), (2, .int a2), (3, .int (-9 : Int32)), (4, .int (0 : Int32))] rfl (L22 n (-9 : Int32) (0 : Int32) S3 hf)
  · replace hf := f_if hf hc
    refine Go.iconst (0 : Int32) 15 rfl dX3_fewestFor_14 ci_0 ?_
    exact Go.irS rfl dX3_fewestFor_15 hf
theorem dX3_findIn_0 : decode cX3_findIn 0 = .ok (.iconst 0, 1) := by decide +kernel
theorem dX3_findIn_1 : decode cX3_findIn 1 = .ok (.istore_n 3, 1) := by decide +kernel
theorem dX3_findIn_2 : decode cX3_findIn 2 = .ok (.iload_n 3, 1) := by decide +kernel
theorem dX3_findIn_3 : decode cX3_findIn 3 = .ok (.aload_n 1, 1) := by decide +kernel
theorem dX3_findIn_4 : decode cX3_findIn 4 = .ok (.getfield 74, 3) := by decide +kernel
theorem dX3_findIn_7 : decode cX3_findIn 7 = .ok (.if_icmp .ge 20, 3) := by decide +kernel
theorem dX3_findIn_10 : decode cX3_findIn 10 = .ok (.aload_n 0, 1) := by decide +kernel
theorem dX3_findIn_11 : decode cX3_findIn 11 = .ok (.getfield 15, 3) := by decide +kernel
theorem dX3_findIn_14 : decode cX3_findIn 14 = .ok (.iload_n 3, 1) := by decide +kernel
theorem dX3_findIn_15 : decode cX3_findIn 15 = .ok (.aload_n 1, 1) := by decide +kernel
theorem dX3_findIn_16 : decode cX3_findIn 16 = .ok (.iload_n 3, 1) := by decide +kernel
theorem dX3_findIn_17 : decode cX3_findIn 17 = .ok (.invokevirtual 77, 3) := by decide +kernel
theorem dX3_findIn_20 : decode cX3_findIn 20 = .ok (.iastore, 1) := by decide +kernel
theorem dX3_findIn_21 : decode cX3_findIn 21 = .ok (.iinc 3 1, 3) := by decide +kernel
theorem dX3_findIn_24 : decode cX3_findIn 24 = .ok (.goto (-22), 3) := by decide +kernel
theorem dX3_findIn_27 : decode cX3_findIn 27 = .ok (.iconst 1, 1) := by decide +kernel
theorem dX3_findIn_28 : decode cX3_findIn 28 = .ok (.istore_n 3, 1) := by decide +kernel
theorem dX3_findIn_29 : decode cX3_findIn 29 = .ok (.iload_n 3, 1) := by decide +kernel
theorem dX3_findIn_30 : decode cX3_findIn 30 = .ok (.iload_n 2, 1) := by decide +kernel
theorem dX3_findIn_31 : decode cX3_findIn 31 = .ok (.if_icmp .gt 39, 3) := by decide +kernel
theorem dX3_findIn_34 : decode cX3_findIn 34 = .ok (.iload_n 3, 1) := by decide +kernel
theorem dX3_findIn_35 : decode cX3_findIn 35 = .ok (.sipush 128, 3) := by decide +kernel
theorem dX3_findIn_38 : decode cX3_findIn 38 = .ok (.if_icmp .ge 32, 3) := by decide +kernel
theorem dX3_findIn_41 : decode cX3_findIn 41 = .ok (.iload_n 3, 1) := by decide +kernel
theorem dX3_findIn_42 : decode cX3_findIn 42 = .ok (.iload_n 2, 1) := by decide +kernel
theorem dX3_findIn_43 : decode cX3_findIn 43 = .ok (.iconst (-1), 1) := by decide +kernel
theorem dX3_findIn_44 : decode cX3_findIn 44 = .ok (.ixor, 1) := by decide +kernel
theorem dX3_findIn_45 : decode cX3_findIn 45 = .ok (.iand, 1) := by decide +kernel
theorem dX3_findIn_46 : decode cX3_findIn 46 = .ok (.ifCond .ne 18, 3) := by decide +kernel
theorem dX3_findIn_49 : decode cX3_findIn 49 = .ok (.aload_n 0, 1) := by decide +kernel
theorem dX3_findIn_50 : decode cX3_findIn 50 = .ok (.getfield 18, 3) := by decide +kernel
theorem dX3_findIn_53 : decode cX3_findIn 53 = .ok (.iload_n 3, 1) := by decide +kernel
theorem dX3_findIn_54 : decode cX3_findIn 54 = .ok (.aload_n 0, 1) := by decide +kernel
theorem dX3_findIn_55 : decode cX3_findIn 55 = .ok (.iload_n 3, 1) := by decide +kernel
theorem dX3_findIn_56 : decode cX3_findIn 56 = .ok (.aload_n 1, 1) := by decide +kernel
theorem dX3_findIn_57 : decode cX3_findIn 57 = .ok (.getfield 74, 3) := by decide +kernel
theorem dX3_findIn_60 : decode cX3_findIn 60 = .ok (.invokevirtual 80, 3) := by decide +kernel
theorem dX3_findIn_63 : decode cX3_findIn 63 = .ok (.iastore, 1) := by decide +kernel
theorem dX3_findIn_64 : decode cX3_findIn 64 = .ok (.iinc 3 1, 3) := by decide +kernel
theorem dX3_findIn_67 : decode cX3_findIn 67 = .ok (.goto (-38), 3) := by decide +kernel
theorem dX3_findIn_70 : decode cX3_findIn 70 = .ok (.aload_n 0, 1) := by decide +kernel
theorem dX3_findIn_71 : decode cX3_findIn 71 = .ok (.aload_n 0, 1) := by decide +kernel
theorem dX3_findIn_72 : decode cX3_findIn 72 = .ok (.getfield 18, 3) := by decide +kernel
theorem dX3_findIn_75 : decode cX3_findIn 75 = .ok (.iload_n 2, 1) := by decide +kernel
theorem dX3_findIn_76 : decode cX3_findIn 76 = .ok (.iaload, 1) := by decide +kernel
theorem dX3_findIn_77 : decode cX3_findIn 77 = .ok (.putfield 28, 3) := by decide +kernel
theorem dX3_findIn_80 : decode cX3_findIn 80 = .ok (.return_, 1) := by decide +kernel
def F_X3_findIn_L29 (n : Nat) (a0 : Nat) (a1 : Nat) (a2 : Int32) (K70 : aSt → Option aSt) : Nat → Int32 → aSt → Option aSt
  | 0, _, _ => none
  | fu + 1, l29_3, l29S =>
    if a2 < l29_3 then (K70 l29S) else
    if (128 : Int32) ≤ l29_3 then (K70 l29S) else
    jn (fun (j64S : aSt) => (F_X3_findIn_L29 n a0 a1 a2 K70 fu (l29_3 + (1 : Int32)) j64S : Option aSt)) fun K64 =>
    if (l29_3 &&& (a2 ^^^ (-1 : Int32))) = 0 then (rfd (l29S.2.2 a0 2) 7 fun k50 =>
    bn2 (F_X3_fewestFor n l29S a0 l29_3 (l29S.1 a1 8)) fun r60 S60 =>
    grd (inb l29_3 (SH k50).2) <|
    nm (stI S60 k50 l29_3.toNatClampNeg r60) fun S63 =>
    K64 S63) else
    K64 l29S
def F_X3_findIn_L2 (n : Nat) (a0 : Nat) (a1 : Nat) (K27 : aSt → Option aSt) : Nat → Int32 → aSt → Option aSt
  | 0, _, _ => none
  | fu + 1, l2_3, l2S =>
    if (l2S.1 a1 8) ≤ l2_3 then (K27 l2S) else
    rfd (l2S.2.2 a0 1) 7 fun k11 =>
    (F_X1_fittingCards n l2S a1 l2_3).bind fun r17 =>
    grd (inb l2_3 (SH k11).2) <|
    nm (stI l2S k11 l2_3.toNatClampNeg r17) fun S20 =>
    F_X3_findIn_L2 n a0 a1 K27 fu (l2_3 + (1 : Int32)) S20
def F_X3_findIn (n : Nat) (S : aSt) (a0 : Nat) (a1 : Nat) (a2 : Int32) : Option aSt :=
jn (fun (x27S : aSt) => (jn (fun (x70S : aSt) => (rfd (x70S.2.2 a0 2) 7 fun k72 =>
grd (inb a2 (SH k72).2) <|
nm (stI x70S a0 5 (x70S.1 k72 a2.toNatClampNeg)) fun S77 =>
some S77 : Option aSt)) fun K70 =>
F_X3_findIn_L29 n a0 a1 a2 K70 n (1 : Int32) x27S : Option aSt)) fun K27 =>
F_X3_findIn_L2 n a0 a1 K27 n (0 : Int32) S
set_option maxHeartbeats 4000000 in
set_option maxRecDepth 100000 in
theorem C_X3_findIn (G : aG) (l : Launch) (n : Nat) (S : aSt) (a0 : Nat) (a1 : Nat) (a2 : Int32) (Sr : aSt) (ha0 : isT a0 2 = true) (ha1 : isT a1 0 = true) (hf : F_X3_findIn n S a0 a1 a2 = some Sr) : Ctr G l yX3_findIn mX3_findIn (rmM 5) 97 97 S [.ref a0, .ref a1, .int a2] none Sr := by
  refine Ctr.of (by decide) rfl rfl (Nat.le_of_ble_eq_true rfl) [(0, .ref a0), (1, .ref a1), (2, .int a2)] rfl ?_
  unfold F_X3_findIn at hf
  refine Go.iconst (0 : Int32) 1 rfl dX3_findIn_0 ci_0 ?_
  refine Go.istore_n 2 [(3, .int (0 : Int32)), (0, .ref a0), (1, .ref a1), (2, .int a2)] rfl dX3_findIn_1 (by decide) rfl ?_
  obtain ⟨K27, eK27, hf⟩ := f_jn hf
  have J27 : ∀ (x27S : aSt), K27 x27S = some Sr → GoM G l 5 (TmR G none 97 Sr 0 0) mX3_findIn 27 [(0, .ref a0), (1, .ref a1), (2, .int a2)] [] x27S := by
    intro x27S hf
    rw [eK27] at hf
    refine Go.iconst (1 : Int32) 28 rfl dX3_findIn_27 ci_1 ?_
    refine Go.istore_n 29 [(3, .int (1 : Int32)), (0, .ref a0), (1, .ref a1), (2, .int a2)] rfl dX3_findIn_28 (by decide) rfl ?_
    obtain ⟨K70, eK70, hf⟩ := f_jn hf
    have J70 : ∀ (x70S : aSt), K70 x70S = some Sr → GoM G l 5 (TmR G none 97 Sr 0 0) mX3_findIn 70 [(0, .ref a0), (2, .int a2)] [] x70S := by
      intro x70S hf
      rw [eK70] at hf
      refine Go.aload_n 0 71 rfl dX3_findIn_70 rfl ?_
      refine Go.aload_n 0 72 rfl dX3_findIn_71 rfl ?_
      obtain ⟨k72, qk72, hk72, hf⟩ := f_rfd hf
      refine Go.getR 75 rfl dX3_findIn_72 fl_X3_18 rfl (isT_lt ha0) (isT_sh ha0) qk72 ?_
      refine Go.iload_n 1 76 rfl dX3_findIn_75 rfl ?_
      obtain ⟨g76, hf⟩ := f_grd hf
      refine Go.iald 77 rfl dX3_findIn_76 (isT_lt hk72) (isT_sh hk72) g76 ?_
      obtain ⟨S77, eS77, hf⟩ := f_nm hf
      refine Go.putI 80 rfl dX3_findIn_77 fp_X3_28 rfl (isT_lt ha0) (isT_sh ha0) (fun h => by cases h) (Go.stt S77 eS77 ?_)
      exact Go.vr rfl dX3_findIn_80 hf
    clear eK70
    have L29 : ∀ (fu : Nat) (l29_3 : Int32) (l29S : aSt), F_X3_findIn_L29 n a0 a1 a2 K70 fu l29_3 l29S = some Sr → GoM G l 5 (TmR G none 97 Sr 0 0) mX3_findIn 29 [(0, .ref a0), (1, .ref a1), (2, .int a2), (3, .int l29_3)] [] l29S := by
      intro fu
      induction fu with
      | zero => intro l29_3 l29S hf; rw [F_X3_findIn_L29] at hf; cases hf
      | succ fu ih =>
        intro l29_3 l29S hf
        rw [F_X3_findIn_L29] at hf
        refine Go.iload_n 3 30 rfl dX3_findIn_29 rfl ?_
        refine Go.iload_n 2 31 rfl dX3_findIn_30 rfl ?_
        refine Go.icmp_gt 70 34 rfl dX3_findIn_31 rfl (fun hc => ?_) (fun hc => ?_)
        · replace hf := f_if hf hc
          exact Go.sub [0, 2] [(0, .ref a0), (2, .int a2)] rfl (J70 l29S hf)
        · replace hf := f_el hf hc
          refine Go.iload_n 3 35 rfl dX3_findIn_34 rfl ?_
          refine Go.sipush (128 : Int32) 38 rfl dX3_findIn_35 cs_128 ?_
          refine Go.icmp_ge 70 41 rfl dX3_findIn_38 rfl (fun hc => ?_) (fun hc => ?_)
          · replace hf := f_if hf hc
            exact Go.sub [0, 2] [(0, .ref a0), (2, .int a2)] rfl (J70 l29S hf)
          · replace hf := f_el hf hc
            refine Go.iload_n 3 42 rfl dX3_findIn_41 rfl ?_
            refine Go.iload_n 2 43 rfl dX3_findIn_42 rfl ?_
            refine Go.iconst (-1 : Int32) 44 rfl dX3_findIn_43 ci_m1 ?_
            refine Go.ixor 45 rfl dX3_findIn_44 ?_
            refine Go.iand 46 rfl dX3_findIn_45 ?_
            obtain ⟨K64, eK64, hf⟩ := f_jn hf
            have J64 : ∀ (j64S : aSt), K64 j64S = some Sr → GoM G l 5 (TmR G none 97 Sr 0 0) mX3_findIn 64 [(0, .ref a0), (1, .ref a1), (2, .int a2), (3, .int l29_3)] [] j64S := by
              intro j64S hf
              rw [eK64] at hf
              refine Go.inc 3 67 (1 : Int32) [(3, .int (l29_3 + (1 : Int32))), (0, .ref a0), (1, .ref a1), (2, .int a2)] rfl dX3_findIn_64 rfl ci_1 (by decide) rfl ?_
              refine Go.goto 29 dX3_findIn_67 rfl ?_
              exact Go.sub [1, 2, 3, 0] [(0, .ref a0), (1, .ref a1), (2, .int a2), (3, .int (l29_3 + (1 : Int32)))] rfl (ih (l29_3 + (1 : Int32)) j64S hf)
            clear eK64
            refine Go.if_ne 64 49 rfl dX3_findIn_46 rfl (fun hc => ?_) (fun hc => ?_)
            · replace hf := f_el hf hc
              exact J64 l29S hf
            · replace hf := f_if hf hc
              refine Go.aload_n 0 50 rfl dX3_findIn_49 rfl ?_
              obtain ⟨k50, qk50, hk50, hf⟩ := f_rfd hf
              refine Go.getR 53 rfl dX3_findIn_50 fl_X3_18 rfl (isT_lt ha0) (isT_sh ha0) qk50 ?_
              refine Go.iload_n 3 54 rfl dX3_findIn_53 rfl ?_
              refine Go.aload_n 0 55 rfl dX3_findIn_54 rfl ?_
              refine Go.iload_n 3 56 rfl dX3_findIn_55 rfl ?_
              refine Go.aload_n 1 57 rfl dX3_findIn_56 rfl ?_
              refine Go.getI 60 rfl dX3_findIn_57 fl_X3_74 rfl (isT_lt ha1) (isT_sh ha1) ?_
              obtain ⟨r60, S60, er60, hf⟩ := f_bn2 hf
              refine Go.cV 63 [.int l29_3, .int (l29S.1 a1 8)] [.int l29_3, .ref k50] (C_X3_fewestFor G l n l29S a0 l29_3 (l29S.1 a1 8) r60 S60 ha0 er60) rfl dX3_findIn_60 cv_X3_80 ha0 (by decide) (by decide) rfl (Nat.le_of_ble_eq_true rfl) ?_
              obtain ⟨g63, hf⟩ := f_grd hf
              obtain ⟨S63, eS63, hf⟩ := f_nm hf
              refine Go.iast 64 rfl dX3_findIn_63 (isT_lt hk50) (isT_sh hk50) g63 (Go.stt S63 eS63 ?_)
              exact J64 S63 hf
    exact Go.sub [1, 2, 3, 0] [(0, .ref a0), (1, .ref a1), (2, .int a2), (3, .int (1 : Int32))] rfl (L29 n (1 : Int32) x27S hf)
  clear eK27
  have L2 : ∀ (fu : Nat) (l2_3 : Int32) (l2S : aSt), F_X3_findIn_L2 n a0 a1 K27 fu l2_3 l2S = some Sr → GoM G l 5 (TmR G none 97 Sr 0 0) mX3_findIn 2 [(0, .ref a0), (1, .ref a1), (2, .int a2), (3, .int l2_3)] [] l2S := by
    intro fu
    induction fu with
    | zero => intro l2_3 l2S hf; rw [F_X3_findIn_L2] at hf; cases hf
    | succ fu ih =>
      intro l2_3 l2S hf
      rw [F_X3_findIn_L2] at hf
      refine Go.iload_n 3 3 rfl dX3_findIn_2 rfl ?_
      refine Go.aload_n 1 4 rfl dX3_findIn_3 rfl ?_
      refine Go.getI 7 rfl dX3_findIn_4 fl_X3_74 rfl (isT_lt ha1) (isT_sh ha1) ?_
      refine Go.icmp_ge 27 10 rfl dX3_findIn_7 rfl (fun hc => ?_) (fun hc => ?_)
      · replace hf := f_if hf hc
        exact Go.sub [0, 1, 2] [(0, .ref a0), (1, .ref a1), (2, .int a2)] rfl (J27 l2S hf)
      · replace hf := f_el hf hc
        refine Go.aload_n 0 11 rfl dX3_findIn_10 rfl ?_
        obtain ⟨k11, qk11, hk11, hf⟩ := f_rfd hf
        refine Go.getR 14 rfl dX3_findIn_11 fl_X3_15 rfl (isT_lt ha0) (isT_sh ha0) qk11 ?_
        refine Go.iload_n 3 15 rfl dX3_findIn_14 rfl ?_
        refine Go.aload_n 1 16 rfl dX3_findIn_15 rfl ?_
        refine Go.iload_n 3 17 rfl dX3_findIn_16 rfl ?_
        obtain ⟨r17, er17, hf⟩ := f_bnd hf
        refine Go.cV 20 [.int l2_3] [.int l2_3, .ref k11] (C_X1_fittingCards G l n l2S a1 l2_3 r17 ha1 er17) rfl dX3_findIn_17 cv_X3_77 ha1 (by decide) (by decide) rfl (Nat.le_of_ble_eq_true rfl) ?_
        obtain ⟨g20, hf⟩ := f_grd hf
        obtain ⟨S20, eS20, hf⟩ := f_nm hf
        refine Go.iast 21 rfl dX3_findIn_20 (isT_lt hk11) (isT_sh hk11) g20 (Go.stt S20 eS20 ?_)
        refine Go.inc 3 24 (1 : Int32) [(3, .int (l2_3 + (1 : Int32))), (0, .ref a0), (1, .ref a1), (2, .int a2)] rfl dX3_findIn_21 rfl ci_1 (by decide) rfl ?_
        refine Go.goto 2 dX3_findIn_24 rfl ?_
        exact Go.sub [1, 2, 3, 0] [(0, .ref a0), (1, .ref a1), (2, .int a2), (3, .int (l2_3 + (1 : Int32)))] rfl (ih (l2_3 + (1 : Int32)) S20 hf)
  exact Go.sub [1, 2, 3, 0] [(0, .ref a0), (1, .ref a1), (2, .int a2), (3, .int (0 : Int32))] rfl (L2 n (0 : Int32) S hf)
