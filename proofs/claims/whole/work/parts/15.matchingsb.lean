/-! written by program: X2_mostFrom X2_layMostWished -/
theorem dX2_mostFrom_0 : decode cX2_mostFrom 0 = .ok (.iload_n 1, 1) := by decide +kernel
theorem dX2_mostFrom_1 : decode cX2_mostFrom 1 = .ok (.iconst 1, 1) := by decide +kernel
theorem dX2_mostFrom_2 : decode cX2_mostFrom 2 = .ok (.iadd, 1) := by decide +kernel
theorem dX2_mostFrom_3 : decode cX2_mostFrom 3 = .ok (.sipush 128, 3) := by decide +kernel
theorem dX2_mostFrom_6 : decode cX2_mostFrom 6 = .ok (.imul, 1) := by decide +kernel
theorem dX2_mostFrom_7 : decode cX2_mostFrom 7 = .ok (.istore 4, 2) := by decide +kernel
theorem dX2_mostFrom_9 : decode cX2_mostFrom 9 = .ok (.aload_n 0, 1) := by decide +kernel
theorem dX2_mostFrom_10 : decode cX2_mostFrom 10 = .ok (.getfield 18, 3) := by decide +kernel
theorem dX2_mostFrom_13 : decode cX2_mostFrom 13 = .ok (.iload 4, 2) := by decide +kernel
theorem dX2_mostFrom_15 : decode cX2_mostFrom 15 = .ok (.iload_n 2, 1) := by decide +kernel
theorem dX2_mostFrom_16 : decode cX2_mostFrom 16 = .ok (.iadd, 1) := by decide +kernel
theorem dX2_mostFrom_17 : decode cX2_mostFrom 17 = .ok (.iaload, 1) := by decide +kernel
theorem dX2_mostFrom_18 : decode cX2_mostFrom 18 = .ok (.istore 5, 2) := by decide +kernel
theorem dX2_mostFrom_20 : decode cX2_mostFrom 20 = .ok (.aload_n 0, 1) := by decide +kernel
theorem dX2_mostFrom_21 : decode cX2_mostFrom 21 = .ok (.getfield 9, 3) := by decide +kernel
theorem dX2_mostFrom_24 : decode cX2_mostFrom 24 = .ok (.iload_n 1, 1) := by decide +kernel
theorem dX2_mostFrom_25 : decode cX2_mostFrom 25 = .ok (.iaload, 1) := by decide +kernel
theorem dX2_mostFrom_26 : decode cX2_mostFrom 26 = .ok (.iload_n 2, 1) := by decide +kernel
theorem dX2_mostFrom_27 : decode cX2_mostFrom 27 = .ok (.iconst (-1), 1) := by decide +kernel
theorem dX2_mostFrom_28 : decode cX2_mostFrom 28 = .ok (.ixor, 1) := by decide +kernel
theorem dX2_mostFrom_29 : decode cX2_mostFrom 29 = .ok (.iand, 1) := by decide +kernel
theorem dX2_mostFrom_30 : decode cX2_mostFrom 30 = .ok (.istore 6, 2) := by decide +kernel
theorem dX2_mostFrom_32 : decode cX2_mostFrom 32 = .ok (.iconst 0, 1) := by decide +kernel
theorem dX2_mostFrom_33 : decode cX2_mostFrom 33 = .ok (.istore 7, 2) := by decide +kernel
theorem dX2_mostFrom_35 : decode cX2_mostFrom 35 = .ok (.iload 7, 2) := by decide +kernel
theorem dX2_mostFrom_37 : decode cX2_mostFrom 37 = .ok (.aload_n 0, 1) := by decide +kernel
theorem dX2_mostFrom_38 : decode cX2_mostFrom 38 = .ok (.getfield 25, 3) := by decide +kernel
theorem dX2_mostFrom_41 : decode cX2_mostFrom 41 = .ok (.if_icmp .ge 42, 3) := by decide +kernel
theorem dX2_mostFrom_44 : decode cX2_mostFrom 44 = .ok (.iload 6, 2) := by decide +kernel
theorem dX2_mostFrom_46 : decode cX2_mostFrom 46 = .ok (.iconst 1, 1) := by decide +kernel
theorem dX2_mostFrom_47 : decode cX2_mostFrom 47 = .ok (.iload 7, 2) := by decide +kernel
theorem dX2_mostFrom_49 : decode cX2_mostFrom 49 = .ok (.ishl, 1) := by decide +kernel
theorem dX2_mostFrom_50 : decode cX2_mostFrom 50 = .ok (.iand, 1) := by decide +kernel
theorem dX2_mostFrom_51 : decode cX2_mostFrom 51 = .ok (.ifCond .eq 26, 3) := by decide +kernel
theorem dX2_mostFrom_54 : decode cX2_mostFrom 54 = .ok (.iload 5, 2) := by decide +kernel
theorem dX2_mostFrom_56 : decode cX2_mostFrom 56 = .ok (.iload_n 3, 1) := by decide +kernel
theorem dX2_mostFrom_57 : decode cX2_mostFrom 57 = .ok (.aload_n 0, 1) := by decide +kernel
theorem dX2_mostFrom_58 : decode cX2_mostFrom 58 = .ok (.getfield 18, 3) := by decide +kernel
theorem dX2_mostFrom_61 : decode cX2_mostFrom 61 = .ok (.iload 4, 2) := by decide +kernel
theorem dX2_mostFrom_63 : decode cX2_mostFrom 63 = .ok (.iload_n 2, 1) := by decide +kernel
theorem dX2_mostFrom_64 : decode cX2_mostFrom 64 = .ok (.iconst 1, 1) := by decide +kernel
theorem dX2_mostFrom_65 : decode cX2_mostFrom 65 = .ok (.iload 7, 2) := by decide +kernel
theorem dX2_mostFrom_67 : decode cX2_mostFrom 67 = .ok (.ishl, 1) := by decide +kernel
theorem dX2_mostFrom_68 : decode cX2_mostFrom 68 = .ok (.ior, 1) := by decide +kernel
theorem dX2_mostFrom_69 : decode cX2_mostFrom 69 = .ok (.iadd, 1) := by decide +kernel
theorem dX2_mostFrom_70 : decode cX2_mostFrom 70 = .ok (.iaload, 1) := by decide +kernel
theorem dX2_mostFrom_71 : decode cX2_mostFrom 71 = .ok (.iadd, 1) := by decide +kernel
theorem dX2_mostFrom_72 : decode cX2_mostFrom 72 = .ok (.invokestatic 78, 3) := by decide +kernel
theorem dX2_mostFrom_75 : decode cX2_mostFrom 75 = .ok (.istore 5, 2) := by decide +kernel
theorem dX2_mostFrom_77 : decode cX2_mostFrom 77 = .ok (.iinc 7 1, 3) := by decide +kernel
theorem dX2_mostFrom_80 : decode cX2_mostFrom 80 = .ok (.goto (-45), 3) := by decide +kernel
theorem dX2_mostFrom_83 : decode cX2_mostFrom 83 = .ok (.iload 5, 2) := by decide +kernel
theorem dX2_mostFrom_85 : decode cX2_mostFrom 85 = .ok (.ireturn, 1) := by decide +kernel
def F_X2_mostFrom_L35 (S : aSt) (a0 : Nat) (a2 : Int32) (a3 : Int32) (v7 : Int32) (k10 : Nat) (v30 : Int32) (K83 : Int32 → Option Int32) : Nat → Int32 → Int32 → Option Int32
  | 0, _, _ => none
  | fu + 1, l35_5, l35_7 =>
    if (S.1 a0 4) ≤ l35_7 then (K83 l35_5) else
    jn (fun (j77_5 : Int32) => (F_X2_mostFrom_L35 S a0 a2 a3 v7 k10 v30 K83 fu j77_5 (l35_7 + (1 : Int32)) : Option Int32)) fun K77 =>
    if (v30 &&& ((1 : Int32) <<< (l35_7 &&& 31))) = 0 then (K77 l35_5) else
    grd (inb (v7 + (a2 ||| ((1 : Int32) <<< (l35_7 &&& 31)))) (SH k10).2) <|
    nm (if l35_5 < (a3 + (S.1 k10 (v7 + (a2 ||| ((1 : Int32) <<< (l35_7 &&& 31)))).toNatClampNeg)) then (a3 + (S.1 k10 (v7 + (a2 ||| ((1 : Int32) <<< (l35_7 &&& 31)))).toNatClampNeg)) else l35_5) fun v75 =>
    K77 v75
def F_X2_mostFrom (n : Nat) (S : aSt) (a0 : Nat) (a1 : Int32) (a2 : Int32) (a3 : Int32) : Option Int32 :=
nm ((a1 + (1 : Int32)) * (128 : Int32)) fun v7 =>
rfd (S.2.2 a0 2) 7 fun k10 =>
grd (inb (v7 + a2) (SH k10).2) <|
nm (S.1 k10 (v7 + a2).toNatClampNeg) fun v18 =>
rfd (S.2.2 a0 0) 7 fun k21 =>
grd (inb a1 (SH k21).2) <|
nm ((S.1 k21 a1.toNatClampNeg) &&& (a2 ^^^ (-1 : Int32))) fun v30 =>
jn (fun (x83_5 : Int32) => (some x83_5 : Option Int32)) fun K83 =>
F_X2_mostFrom_L35 S a0 a2 a3 v7 k10 v30 K83 n v18 (0 : Int32)
set_option maxHeartbeats 4000000 in
set_option maxRecDepth 100000 in
theorem C_X2_mostFrom (G : aG) (l : Launch) (n : Nat) (S : aSt) (a0 : Nat) (a1 : Int32) (a2 : Int32) (a3 : Int32) (r : Int32) (ha0 : isT a0 1 = true) (hf : F_X2_mostFrom n S a0 a1 a2 a3 = some r) : Ctr G l yX2_mostFrom mX2_mostFrom (rmM 1) 97 97 S [.ref a0, .int a1, .int a2, .int a3] (some (.int r)) S := by
  refine Ctr.of (by decide) rfl rfl (Nat.le_of_ble_eq_true rfl) [(0, .ref a0), (1, .int a1), (2, .int a2), (3, .int a3)] rfl ?_
  unfold F_X2_mostFrom at hf
  refine Go.iload_n 1 1 rfl dX2_mostFrom_0 rfl ?_
  refine Go.iconst (1 : Int32) 2 rfl dX2_mostFrom_1 ci_1 ?_
  refine Go.iadd 3 rfl dX2_mostFrom_2 ?_
  refine Go.sipush (128 : Int32) 6 rfl dX2_mostFrom_3 cs_128 ?_
  refine Go.imul 7 rfl dX2_mostFrom_6 ?_
  obtain ⟨v7, ev7, hf⟩ := f_nm hf
  refine Go.topi v7 ev7 ?_
  refine Go.istore 9 [(4, .int v7), (0, .ref a0), (1, .int a1), (2, .int a2), (3, .int a3)] rfl dX2_mostFrom_7 (by decide) rfl ?_
  refine Go.aload_n 1 10 rfl dX2_mostFrom_9 rfl ?_
  obtain ⟨k10, qk10, hk10, hf⟩ := f_rfd hf
  refine Go.getR 13 rfl dX2_mostFrom_10 fl_X2_18 rfl (isT_lt ha0) (isT_sh ha0) qk10 ?_
  refine Go.iload 0 15 rfl dX2_mostFrom_13 rfl ?_
  refine Go.iload_n 3 16 rfl dX2_mostFrom_15 rfl ?_
  refine Go.iadd 17 rfl dX2_mostFrom_16 ?_
  obtain ⟨g17, hf⟩ := f_grd hf
  refine Go.iald 18 rfl dX2_mostFrom_17 (isT_lt hk10) (isT_sh hk10) g17 ?_
  obtain ⟨v18, ev18, hf⟩ := f_nm hf
  refine Go.topi v18 ev18 ?_
  refine Go.istore 20 [(5, .int v18), (4, .int v7), (0, .ref a0), (1, .int a1), (2, .int a2), (3, .int a3)] rfl dX2_mostFrom_18 (by decide) rfl ?_
  refine Go.aload_n 2 21 rfl dX2_mostFrom_20 rfl ?_
  obtain ⟨k21, qk21, hk21, hf⟩ := f_rfd hf
  refine Go.getR 24 rfl dX2_mostFrom_21 fl_X2_9 rfl (isT_lt ha0) (isT_sh ha0) qk21 ?_
  refine Go.iload_n 3 25 rfl dX2_mostFrom_24 rfl ?_
  obtain ⟨g25, hf⟩ := f_grd hf
  refine Go.iald 26 rfl dX2_mostFrom_25 (isT_lt hk21) (isT_sh hk21) g25 ?_
  refine Go.iload_n 4 27 rfl dX2_mostFrom_26 rfl ?_
  refine Go.iconst (-1 : Int32) 28 rfl dX2_mostFrom_27 ci_m1 ?_
  refine Go.ixor 29 rfl dX2_mostFrom_28 ?_
  refine Go.iand 30 rfl dX2_mostFrom_29 ?_
  obtain ⟨v30, ev30, hf⟩ := f_nm hf
  refine Go.topi v30 ev30 ?_
  refine Go.istore 32 [(6, .int v30), (5, .int v18), (4, .int v7), (0, .ref a0), (1, .int a1), (2, .int a2), (3, .int a3)] rfl dX2_mostFrom_30 (by decide) rfl ?_
  refine Go.iconst (0 : Int32) 33 rfl dX2_mostFrom_32 ci_0 ?_
  refine Go.istore 35 [(7, .int (0 : Int32)), (6, .int v30), (5, .int v18), (4, .int v7), (0, .ref a0), (1, .int a1), (2, .int a2), (3, .int a3)] rfl dX2_mostFrom_33 (by decide) rfl ?_
  obtain ⟨K83, eK83, hf⟩ := f_jn hf
  have J83 : ∀ (x83_5 : Int32), K83 x83_5 = some r → GoM G l 1 (TmR G (some (.int r)) 97 S 0 0) mX2_mostFrom 83 [(5, .int x83_5)] [] S := by
    intro x83_5 hf
    rw [eK83] at hf
    refine Go.iload 0 85 rfl dX2_mostFrom_83 rfl ?_
    exact Go.ir rfl dX2_mostFrom_85 hf
  clear eK83
  have L35 : ∀ (fu : Nat) (l35_5 : Int32) (l35_7 : Int32), F_X2_mostFrom_L35 S a0 a2 a3 v7 k10 v30 K83 fu l35_5 l35_7 = some r → GoM G l 1 (TmR G (some (.int r)) 97 S 0 0) mX2_mostFrom 35 [(0, .ref a0), (2, .int a2), (3, .int a3), (4, .int v7), (5, .int l35_5), (6, .int v30), (7, .int l35_7)] [] S := by
    intro fu
    induction fu with
    | zero => intro l35_5 l35_7 hf; rw [F_X2_mostFrom_L35] at hf; cases hf
    | succ fu ih =>
      intro l35_5 l35_7 hf
      rw [F_X2_mostFrom_L35] at hf
      refine Go.iload 6 37 rfl dX2_mostFrom_35 rfl ?_
      refine Go.aload_n 0 38 rfl dX2_mostFrom_37 rfl ?_
      refine Go.getI 41 rfl dX2_mostFrom_38 fl_X2_25 rfl (isT_lt ha0) (isT_sh ha0) ?_
      refine Go.icmp_ge 83 44 rfl dX2_mostFrom_41 rfl (fun hc => ?_) (fun hc => ?_)
      · replace hf := f_if hf hc
        exact Go.sub [4] [(5, .int l35_5)] rfl (J83 l35_5 hf)
      · replace hf := f_el hf hc
        refine Go.iload 5 46 rfl dX2_mostFrom_44 rfl ?_
        refine Go.iconst (1 : Int32) 47 rfl dX2_mostFrom_46 ci_1 ?_
        refine Go.iload 6 49 rfl dX2_mostFrom_47 rfl ?_
        refine Go.ishl 50 rfl dX2_mostFrom_49 ?_
        refine Go.iand 51 rfl dX2_mostFrom_50 ?_
        obtain ⟨K77, eK77, hf⟩ := f_jn hf
        have J77 : ∀ (j77_5 : Int32), K77 j77_5 = some r → GoM G l 1 (TmR G (some (.int r)) 97 S 0 0) mX2_mostFrom 77 [(0, .ref a0), (2, .int a2), (3, .int a3), (4, .int v7), (5, .int j77_5), (6, .int v30), (7, .int l35_7)] [] S := by
          intro j77_5 hf
          rw [eK77] at hf
          refine Go.inc 6 80 (1 : Int32) [(7, .int (l35_7 + (1 : Int32))), (0, .ref a0), (2, .int a2), (3, .int a3), (4, .int v7), (5, .int j77_5), (6, .int v30)] rfl dX2_mostFrom_77 rfl ci_1 (by decide) rfl ?_
          refine Go.goto 35 dX2_mostFrom_80 rfl ?_
          exact Go.sub [1, 2, 3, 4, 5, 6, 0] [(0, .ref a0), (2, .int a2), (3, .int a3), (4, .int v7), (5, .int j77_5), (6, .int v30), (7, .int (l35_7 + (1 : Int32)))] rfl (ih j77_5 (l35_7 + (1 : Int32)) hf)
        clear eK77
        refine Go.if_eq 77 54 rfl dX2_mostFrom_51 rfl (fun hc => ?_) (fun hc => ?_)
        · replace hf := f_if hf hc
          exact J77 l35_5 hf
        · replace hf := f_el hf hc
          refine Go.iload 4 56 rfl dX2_mostFrom_54 rfl ?_
          refine Go.iload_n 2 57 rfl dX2_mostFrom_56 rfl ?_
          refine Go.aload_n 0 58 rfl dX2_mostFrom_57 rfl ?_
          refine Go.getR 61 rfl dX2_mostFrom_58 fl_X2_18 rfl (isT_lt ha0) (isT_sh ha0) qk10 ?_
          refine Go.iload 3 63 rfl dX2_mostFrom_61 rfl ?_
          refine Go.iload_n 1 64 rfl dX2_mostFrom_63 rfl ?_
          refine Go.iconst (1 : Int32) 65 rfl dX2_mostFrom_64 ci_1 ?_
          refine Go.iload 6 67 rfl dX2_mostFrom_65 rfl ?_
          refine Go.ishl 68 rfl dX2_mostFrom_67 ?_
          refine Go.ior 69 rfl dX2_mostFrom_68 ?_
          refine Go.iadd 70 rfl dX2_mostFrom_69 ?_
          obtain ⟨g70, hf⟩ := f_grd hf
          refine Go.iald 71 rfl dX2_mostFrom_70 (isT_lt hk10) (isT_sh hk10) g70 ?_
          refine Go.iadd 72 rfl dX2_mostFrom_71 ?_
          refine Go.mmax 75 rfl dX2_mostFrom_72 (am_mem 572 (by decide +kernel) rfl) (am_mem 237 (by decide +kernel) rfl) (am_mem 59 (by decide +kernel) rfl) (am_mem 238 (by decide +kernel) rfl) (Nat.le_of_ble_eq_true rfl) ?_
          obtain ⟨v75, ev75, hf⟩ := f_nm hf
          refine Go.topi v75 ev75 ?_
          refine Go.istore 77 [(5, .int v75), (0, .ref a0), (2, .int a2), (3, .int a3), (4, .int v7), (6, .int v30), (7, .int l35_7)] rfl dX2_mostFrom_75 (by decide) rfl ?_
          exact Go.sub [1, 2, 3, 4, 0, 5, 6] [(0, .ref a0), (2, .int a2), (3, .int a3), (4, .int v7), (5, .int v75), (6, .int v30), (7, .int l35_7)] rfl (J77 v75 hf)
  exact Go.sub [4, 6, 7, 3, 2, 1, 0] [(0, .ref a0), (2, .int a2), (3, .int a3), (4, .int v7), (5, .int v18), (6, .int v30), (7, .int (0 : Int32))] rfl (L35 n v18 (0 : Int32) hf)
theorem dX2_layMostWished_0 : decode cX2_layMostWished 0 = .ok (.aload_n 0, 1) := by decide +kernel
theorem dX2_layMostWished_1 : decode cX2_layMostWished 1 = .ok (.aload_n 1, 1) := by decide +kernel
theorem dX2_layMostWished_2 : decode cX2_layMostWished 2 = .ok (.invokevirtual 37, 3) := by decide +kernel
theorem dX2_layMostWished_5 : decode cX2_layMostWished 5 = .ok (.iconst 0, 1) := by decide +kernel
theorem dX2_layMostWished_6 : decode cX2_layMostWished 6 = .ok (.istore_n 3, 1) := by decide +kernel
theorem dX2_layMostWished_7 : decode cX2_layMostWished 7 = .ok (.iload_n 3, 1) := by decide +kernel
theorem dX2_layMostWished_8 : decode cX2_layMostWished 8 = .ok (.aload_n 0, 1) := by decide +kernel
theorem dX2_layMostWished_9 : decode cX2_layMostWished 9 = .ok (.getfield 28, 3) := by decide +kernel
theorem dX2_layMostWished_12 : decode cX2_layMostWished 12 = .ok (.if_icmp .ge 25, 3) := by decide +kernel
theorem dX2_layMostWished_15 : decode cX2_layMostWished 15 = .ok (.aload_n 0, 1) := by decide +kernel
theorem dX2_layMostWished_16 : decode cX2_layMostWished 16 = .ok (.getfield 18, 3) := by decide +kernel
theorem dX2_layMostWished_19 : decode cX2_layMostWished 19 = .ok (.aload_n 0, 1) := by decide +kernel
theorem dX2_layMostWished_20 : decode cX2_layMostWished 20 = .ok (.getfield 21, 3) := by decide +kernel
theorem dX2_layMostWished_23 : decode cX2_layMostWished 23 = .ok (.sipush 128, 3) := by decide +kernel
theorem dX2_layMostWished_26 : decode cX2_layMostWished 26 = .ok (.imul, 1) := by decide +kernel
theorem dX2_layMostWished_27 : decode cX2_layMostWished 27 = .ok (.iload_n 3, 1) := by decide +kernel
theorem dX2_layMostWished_28 : decode cX2_layMostWished 28 = .ok (.iadd, 1) := by decide +kernel
theorem dX2_layMostWished_29 : decode cX2_layMostWished 29 = .ok (.iconst 0, 1) := by decide +kernel
theorem dX2_layMostWished_30 : decode cX2_layMostWished 30 = .ok (.iastore, 1) := by decide +kernel
theorem dX2_layMostWished_31 : decode cX2_layMostWished 31 = .ok (.iinc 3 1, 3) := by decide +kernel
theorem dX2_layMostWished_34 : decode cX2_layMostWished 34 = .ok (.goto (-27), 3) := by decide +kernel
theorem dX2_layMostWished_37 : decode cX2_layMostWished 37 = .ok (.aload_n 0, 1) := by decide +kernel
theorem dX2_layMostWished_38 : decode cX2_layMostWished 38 = .ok (.getfield 21, 3) := by decide +kernel
theorem dX2_layMostWished_41 : decode cX2_layMostWished 41 = .ok (.iconst 1, 1) := by decide +kernel
theorem dX2_layMostWished_42 : decode cX2_layMostWished 42 = .ok (.isub, 1) := by decide +kernel
theorem dX2_layMostWished_43 : decode cX2_layMostWished 43 = .ok (.istore_n 3, 1) := by decide +kernel
theorem dX2_layMostWished_44 : decode cX2_layMostWished 44 = .ok (.iload_n 3, 1) := by decide +kernel
theorem dX2_layMostWished_45 : decode cX2_layMostWished 45 = .ok (.ifCond .lt 85, 3) := by decide +kernel
theorem dX2_layMostWished_48 : decode cX2_layMostWished 48 = .ok (.iconst 0, 1) := by decide +kernel
theorem dX2_layMostWished_49 : decode cX2_layMostWished 49 = .ok (.istore 4, 2) := by decide +kernel
theorem dX2_layMostWished_51 : decode cX2_layMostWished 51 = .ok (.iload 4, 2) := by decide +kernel
theorem dX2_layMostWished_53 : decode cX2_layMostWished 53 = .ok (.aload_n 0, 1) := by decide +kernel
theorem dX2_layMostWished_54 : decode cX2_layMostWished 54 = .ok (.getfield 28, 3) := by decide +kernel
theorem dX2_layMostWished_57 : decode cX2_layMostWished 57 = .ok (.if_icmp .ge 67, 3) := by decide +kernel
theorem dX2_layMostWished_60 : decode cX2_layMostWished 60 = .ok (.aload_n 0, 1) := by decide +kernel
theorem dX2_layMostWished_61 : decode cX2_layMostWished 61 = .ok (.getfield 15, 3) := by decide +kernel
theorem dX2_layMostWished_64 : decode cX2_layMostWished 64 = .ok (.iload_n 3, 1) := by decide +kernel
theorem dX2_layMostWished_65 : decode cX2_layMostWished 65 = .ok (.sipush 128, 3) := by decide +kernel
theorem dX2_layMostWished_68 : decode cX2_layMostWished 68 = .ok (.imul, 1) := by decide +kernel
theorem dX2_layMostWished_69 : decode cX2_layMostWished 69 = .ok (.iload 4, 2) := by decide +kernel
theorem dX2_layMostWished_71 : decode cX2_layMostWished 71 = .ok (.iadd, 1) := by decide +kernel
theorem dX2_layMostWished_72 : decode cX2_layMostWished 72 = .ok (.iaload, 1) := by decide +kernel
theorem dX2_layMostWished_73 : decode cX2_layMostWished 73 = .ok (.ifCond .le 7, 3) := by decide +kernel
theorem dX2_layMostWished_76 : decode cX2_layMostWished 76 = .ok (.iconst 1, 1) := by decide +kernel
theorem dX2_layMostWished_77 : decode cX2_layMostWished 77 = .ok (.goto 4, 3) := by decide +kernel
theorem dX2_layMostWished_80 : decode cX2_layMostWished 80 = .ok (.iconst 0, 1) := by decide +kernel
theorem dX2_layMostWished_81 : decode cX2_layMostWished 81 = .ok (.istore 5, 2) := by decide +kernel
theorem dX2_layMostWished_83 : decode cX2_layMostWished 83 = .ok (.aload_n 0, 1) := by decide +kernel
theorem dX2_layMostWished_84 : decode cX2_layMostWished 84 = .ok (.getfield 18, 3) := by decide +kernel
theorem dX2_layMostWished_87 : decode cX2_layMostWished 87 = .ok (.iload_n 3, 1) := by decide +kernel
theorem dX2_layMostWished_88 : decode cX2_layMostWished 88 = .ok (.sipush 128, 3) := by decide +kernel
theorem dX2_layMostWished_91 : decode cX2_layMostWished 91 = .ok (.imul, 1) := by decide +kernel
theorem dX2_layMostWished_92 : decode cX2_layMostWished 92 = .ok (.iload 4, 2) := by decide +kernel
theorem dX2_layMostWished_94 : decode cX2_layMostWished 94 = .ok (.iadd, 1) := by decide +kernel
theorem dX2_layMostWished_95 : decode cX2_layMostWished 95 = .ok (.iload 5, 2) := by decide +kernel
theorem dX2_layMostWished_97 : decode cX2_layMostWished 97 = .ok (.ifCond .eq 19, 3) := by decide +kernel
theorem dX2_layMostWished_100 : decode cX2_layMostWished 100 = .ok (.aload_n 0, 1) := by decide +kernel
theorem dX2_layMostWished_101 : decode cX2_layMostWished 101 = .ok (.iload_n 3, 1) := by decide +kernel
theorem dX2_layMostWished_102 : decode cX2_layMostWished 102 = .ok (.iload 4, 2) := by decide +kernel
theorem dX2_layMostWished_104 : decode cX2_layMostWished 104 = .ok (.aload_n 1, 1) := by decide +kernel
theorem dX2_layMostWished_105 : decode cX2_layMostWished 105 = .ok (.getfield 102, 3) := by decide +kernel
theorem dX2_layMostWished_108 : decode cX2_layMostWished 108 = .ok (.iload_n 3, 1) := by decide +kernel
theorem dX2_layMostWished_109 : decode cX2_layMostWished 109 = .ok (.iaload, 1) := by decide +kernel
theorem dX2_layMostWished_110 : decode cX2_layMostWished 110 = .ok (.invokevirtual 105, 3) := by decide +kernel
theorem dX2_layMostWished_113 : decode cX2_layMostWished 113 = .ok (.goto 4, 3) := by decide +kernel
theorem dX2_layMostWished_116 : decode cX2_layMostWished 116 = .ok (.iconst 0, 1) := by decide +kernel
theorem dX2_layMostWished_117 : decode cX2_layMostWished 117 = .ok (.iastore, 1) := by decide +kernel
theorem dX2_layMostWished_118 : decode cX2_layMostWished 118 = .ok (.iinc 4 1, 3) := by decide +kernel
theorem dX2_layMostWished_121 : decode cX2_layMostWished 121 = .ok (.goto (-70), 3) := by decide +kernel
theorem dX2_layMostWished_124 : decode cX2_layMostWished 124 = .ok (.iinc 3 (-1), 3) := by decide +kernel
theorem dX2_layMostWished_127 : decode cX2_layMostWished 127 = .ok (.goto (-83), 3) := by decide +kernel
theorem dX2_layMostWished_130 : decode cX2_layMostWished 130 = .ok (.aload_n 2, 1) := by decide +kernel
theorem dX2_layMostWished_131 : decode cX2_layMostWished 131 = .ok (.aload_n 0, 1) := by decide +kernel
theorem dX2_layMostWished_132 : decode cX2_layMostWished 132 = .ok (.getfield 21, 3) := by decide +kernel
theorem dX2_layMostWished_135 : decode cX2_layMostWished 135 = .ok (.bipush (-9), 2) := by decide +kernel
theorem dX2_layMostWished_137 : decode cX2_layMostWished 137 = .ok (.invokevirtual 90, 3) := by decide +kernel
theorem dX2_layMostWished_140 : decode cX2_layMostWished 140 = .ok (.iconst 0, 1) := by decide +kernel
theorem dX2_layMostWished_141 : decode cX2_layMostWished 141 = .ok (.istore_n 3, 1) := by decide +kernel
theorem dX2_layMostWished_142 : decode cX2_layMostWished 142 = .ok (.iconst 0, 1) := by decide +kernel
theorem dX2_layMostWished_143 : decode cX2_layMostWished 143 = .ok (.istore 4, 2) := by decide +kernel
theorem dX2_layMostWished_145 : decode cX2_layMostWished 145 = .ok (.iload 4, 2) := by decide +kernel
theorem dX2_layMostWished_147 : decode cX2_layMostWished 147 = .ok (.aload_n 0, 1) := by decide +kernel
theorem dX2_layMostWished_148 : decode cX2_layMostWished 148 = .ok (.getfield 21, 3) := by decide +kernel
theorem dX2_layMostWished_151 : decode cX2_layMostWished 151 = .ok (.if_icmp .ge 51, 3) := by decide +kernel
theorem dX2_layMostWished_154 : decode cX2_layMostWished 154 = .ok (.aload_n 0, 1) := by decide +kernel
theorem dX2_layMostWished_155 : decode cX2_layMostWished 155 = .ok (.iload 4, 2) := by decide +kernel
theorem dX2_layMostWished_157 : decode cX2_layMostWished 157 = .ok (.iload_n 3, 1) := by decide +kernel
theorem dX2_layMostWished_158 : decode cX2_layMostWished 158 = .ok (.aload_n 1, 1) := by decide +kernel
theorem dX2_layMostWished_159 : decode cX2_layMostWished 159 = .ok (.getfield 102, 3) := by decide +kernel
theorem dX2_layMostWished_162 : decode cX2_layMostWished 162 = .ok (.iload 4, 2) := by decide +kernel
theorem dX2_layMostWished_164 : decode cX2_layMostWished 164 = .ok (.iaload, 1) := by decide +kernel
theorem dX2_layMostWished_165 : decode cX2_layMostWished 165 = .ok (.invokevirtual 109, 3) := by decide +kernel
theorem dX2_layMostWished_168 : decode cX2_layMostWished 168 = .ok (.istore 5, 2) := by decide +kernel
theorem dX2_layMostWished_170 : decode cX2_layMostWished 170 = .ok (.aload_n 2, 1) := by decide +kernel
theorem dX2_layMostWished_171 : decode cX2_layMostWished 171 = .ok (.iload 4, 2) := by decide +kernel
theorem dX2_layMostWished_173 : decode cX2_layMostWished 173 = .ok (.iload 5, 2) := by decide +kernel
theorem dX2_layMostWished_175 : decode cX2_layMostWished 175 = .ok (.invokevirtual 99, 3) := by decide +kernel
theorem dX2_layMostWished_178 : decode cX2_layMostWished 178 = .ok (.iload_n 3, 1) := by decide +kernel
theorem dX2_layMostWished_179 : decode cX2_layMostWished 179 = .ok (.iload 5, 2) := by decide +kernel
theorem dX2_layMostWished_181 : decode cX2_layMostWished 181 = .ok (.bipush (-9), 2) := by decide +kernel
theorem dX2_layMostWished_183 : decode cX2_layMostWished 183 = .ok (.if_icmp .ne 7, 3) := by decide +kernel
theorem dX2_layMostWished_186 : decode cX2_layMostWished 186 = .ok (.iconst 0, 1) := by decide +kernel
theorem dX2_layMostWished_187 : decode cX2_layMostWished 187 = .ok (.goto 7, 3) := by decide +kernel
theorem dX2_layMostWished_190 : decode cX2_layMostWished 190 = .ok (.iconst 1, 1) := by decide +kernel
theorem dX2_layMostWished_191 : decode cX2_layMostWished 191 = .ok (.iload 5, 2) := by decide +kernel
theorem dX2_layMostWished_193 : decode cX2_layMostWished 193 = .ok (.ishl, 1) := by decide +kernel
theorem dX2_layMostWished_194 : decode cX2_layMostWished 194 = .ok (.ior, 1) := by decide +kernel
theorem dX2_layMostWished_195 : decode cX2_layMostWished 195 = .ok (.istore_n 3, 1) := by decide +kernel
theorem dX2_layMostWished_196 : decode cX2_layMostWished 196 = .ok (.iinc 4 1, 3) := by decide +kernel
theorem dX2_layMostWished_199 : decode cX2_layMostWished 199 = .ok (.goto (-54), 3) := by decide +kernel
theorem dX2_layMostWished_202 : decode cX2_layMostWished 202 = .ok (.aload_n 0, 1) := by decide +kernel
theorem dX2_layMostWished_203 : decode cX2_layMostWished 203 = .ok (.getfield 18, 3) := by decide +kernel
theorem dX2_layMostWished_206 : decode cX2_layMostWished 206 = .ok (.iconst 0, 1) := by decide +kernel
theorem dX2_layMostWished_207 : decode cX2_layMostWished 207 = .ok (.iaload, 1) := by decide +kernel
theorem dX2_layMostWished_208 : decode cX2_layMostWished 208 = .ok (.ireturn, 1) := by decide +kernel
def F_X2_layMostWished_L145 (n : Nat) (a0 : Nat) (a1 : Nat) (a2 : Nat) (K202 : aSt → Option (Int32 × aSt)) : Nat → Int32 → Int32 → aSt → Option (Int32 × aSt)
  | 0, _, _, _ => none
  | fu + 1, l145_3, l145_4, l145S =>
    if (l145S.1 a0 3) ≤ l145_4 then (K202 l145S) else
    rfd (l145S.2.2 a1 5) 7 fun k159 =>
    grd (inb l145_4 (SH k159).2) <|
    (F_X2_firstWished n l145S a0 l145_4 l145_3 (l145S.1 k159 l145_4.toNatClampNeg)).bind fun r165 =>
    (F_X4_layAt n l145S a2 l145_4 r165).bind fun S175 =>
    jn (fun (j194s1 : Int32) => (nm (l145_3 ||| j194s1) fun v195 =>
    F_X2_layMostWished_L145 n a0 a1 a2 K202 fu v195 (l145_4 + (1 : Int32)) S175 : Option (Int32 × aSt))) fun K194 =>
    if r165 = (-9 : Int32) then (K194 (0 : Int32)) else
    K194 ((1 : Int32) <<< (r165 &&& 31))
def F_X2_layMostWished_L51 (n : Nat) (a0 : Nat) (a1 : Nat) (l44_3 : Int32) (K124 : aSt → Option (Int32 × aSt)) : Nat → Int32 → aSt → Option (Int32 × aSt)
  | 0, _, _ => none
  | fu + 1, l51_4, l51S =>
    if (l51S.1 a0 5) ≤ l51_4 then (K124 l51S) else
    rfd (l51S.2.2 a0 1) 7 fun k61 =>
    grd (inb ((l44_3 * (128 : Int32)) + l51_4) (SH k61).2) <|
    jn (fun (j81s0 : Int32) => (rfd (l51S.2.2 a0 2) 7 fun k84 =>
    jn (fun (j117s2 : Int32) => (grd (inb ((l44_3 * (128 : Int32)) + l51_4) (SH k84).2) <|
    nm (stI l51S k84 ((l44_3 * (128 : Int32)) + l51_4).toNatClampNeg j117s2) fun S117 =>
    F_X2_layMostWished_L51 n a0 a1 l44_3 K124 fu (l51_4 + (1 : Int32)) S117 : Option (Int32 × aSt))) fun K117 =>
    if j81s0 = 0 then (K117 (0 : Int32)) else
    rfd (l51S.2.2 a1 5) 7 fun k105 =>
    grd (inb l44_3 (SH k105).2) <|
    (F_X2_mostFrom n l51S a0 l44_3 l51_4 (l51S.1 k105 l44_3.toNatClampNeg)).bind fun r110 =>
    K117 r110 : Option (Int32 × aSt))) fun K81 =>
    if (l51S.1 k61 ((l44_3 * (128 : Int32)) + l51_4).toNatClampNeg) ≤ 0 then (K81 (0 : Int32)) else
    K81 (1 : Int32)
def F_X2_layMostWished_L44 (n : Nat) (a0 : Nat) (a1 : Nat) (K130 : aSt → Option (Int32 × aSt)) : Nat → Int32 → aSt → Option (Int32 × aSt)
  | 0, _, _ => none
  | fu + 1, l44_3, l44S =>
    if l44_3 < 0 then (K130 l44S) else
    jn (fun (x124S : aSt) => (F_X2_layMostWished_L44 n a0 a1 K130 fu (l44_3 + (-1 : Int32)) x124S : Option (Int32 × aSt))) fun K124 =>
    F_X2_layMostWished_L51 n a0 a1 l44_3 K124 n (0 : Int32) l44S
def F_X2_layMostWished_L7 (a0 : Nat) (K37 : aSt → Option (Int32 × aSt)) : Nat → Int32 → aSt → Option (Int32 × aSt)
  | 0, _, _ => none
  | fu + 1, l7_3, l7S =>
    if (l7S.1 a0 5) ≤ l7_3 then (K37 l7S) else
    rfd (l7S.2.2 a0 2) 7 fun k16 =>
    grd (inb (((l7S.1 a0 3) * (128 : Int32)) + l7_3) (SH k16).2) <|
    nm (stI l7S k16 (((l7S.1 a0 3) * (128 : Int32)) + l7_3).toNatClampNeg (0 : Int32)) fun S30 =>
    F_X2_layMostWished_L7 a0 K37 fu (l7_3 + (1 : Int32)) S30
def F_X2_layMostWished (n : Nat) (S : aSt) (a0 : Nat) (a1 : Nat) (a2 : Nat) : Option (Int32 × aSt) :=
(F_X2_countAhead n S a0 a1).bind fun S2 =>
jn (fun (x37S : aSt) => (nm ((x37S.1 a0 3) - (1 : Int32)) fun v43 =>
jn (fun (x130S : aSt) => ((F_X4_begin n x130S a2 (x130S.1 a0 3) (-9 : Int32)).bind fun S137 =>
jn (fun (x202S : aSt) => (rfd (x202S.2.2 a0 2) 7 fun k203 =>
grd (inb (0 : Int32) (SH k203).2) <|
some ((x202S.1 k203 (0 : Int32).toNatClampNeg), x202S) : Option (Int32 × aSt))) fun K202 =>
F_X2_layMostWished_L145 n a0 a1 a2 K202 n (0 : Int32) (0 : Int32) S137 : Option (Int32 × aSt))) fun K130 =>
F_X2_layMostWished_L44 n a0 a1 K130 n v43 x37S : Option (Int32 × aSt))) fun K37 =>
F_X2_layMostWished_L7 a0 K37 n (0 : Int32) S2
set_option maxHeartbeats 4000000 in
set_option maxRecDepth 100000 in
theorem C_X2_layMostWished (G : aG) (l : Launch) (n : Nat) (S : aSt) (a0 : Nat) (a1 : Nat) (a2 : Nat) (r : Int32) (Sr : aSt) (ha0 : isT a0 1 = true) (ha1 : isT a1 0 = true) (ha2 : isT a2 3 = true) (hf : F_X2_layMostWished n S a0 a1 a2 = some (r, Sr)) : Ctr G l yX2_layMostWished mX2_layMostWished (rmM 6) 97 97 S [.ref a0, .ref a1, .ref a2] (some (.int r)) Sr := by
  refine Ctr.of (by decide) rfl rfl (Nat.le_of_ble_eq_true rfl) [(0, .ref a0), (1, .ref a1), (2, .ref a2)] rfl ?_
  unfold F_X2_layMostWished at hf
  refine Go.aload_n 0 1 rfl dX2_layMostWished_0 rfl ?_
  refine Go.aload_n 1 2 rfl dX2_layMostWished_1 rfl ?_
  obtain ⟨S2, eS2, hf⟩ := f_bnd hf
  refine Go.cVv 5 [.ref a1] [] (C_X2_countAhead G l n S a0 a1 S2 ha0 ha1 eS2) rfl dX2_layMostWished_2 cv_X2_37 ha0 (by decide) (by decide) rfl (Nat.le_of_ble_eq_true rfl) ?_
  refine Go.iconst (0 : Int32) 6 rfl dX2_layMostWished_5 ci_0 ?_
  refine Go.istore_n 7 [(3, .int (0 : Int32)), (0, .ref a0), (1, .ref a1), (2, .ref a2)] rfl dX2_layMostWished_6 (by decide) rfl ?_
  obtain ⟨K37, eK37, hf⟩ := f_jn hf
  have J37 : ∀ (x37S : aSt), K37 x37S = some (r, Sr) → GoM G l 6 (TmR G (some (.int r)) 97 Sr 0 0) mX2_layMostWished 37 [(0, .ref a0), (1, .ref a1), (2, .ref a2)] [] x37S := by
    intro x37S hf
    rw [eK37] at hf
    refine Go.aload_n 0 38 rfl dX2_layMostWished_37 rfl ?_
    refine Go.getI 41 rfl dX2_layMostWished_38 fl_X2_21 rfl (isT_lt ha0) (isT_sh ha0) ?_
    refine Go.iconst (1 : Int32) 42 rfl dX2_layMostWished_41 ci_1 ?_
    refine Go.isub 43 rfl dX2_layMostWished_42 ?_
    obtain ⟨v43, ev43, hf⟩ := f_nm hf
    refine Go.topi v43 ev43 ?_
    refine Go.istore_n 44 [(3, .int v43), (0, .ref a0), (1, .ref a1), (2, .ref a2)] rfl dX2_layMostWished_43 (by decide) rfl ?_
    obtain ⟨K130, eK130, hf⟩ := f_jn hf
    have J130 : ∀ (x130S : aSt), K130 x130S = some (r, Sr) → GoM G l 6 (TmR G (some (.int r)) 97 Sr 0 0) mX2_layMostWished 130 [(0, .ref a0), (1, .ref a1), (2, .ref a2)] [] x130S := by
      intro x130S hf
      rw [eK130] at hf
      refine Go.aload_n 2 131 rfl dX2_layMostWished_130 rfl ?_
      refine Go.aload_n 0 132 rfl dX2_layMostWished_131 rfl ?_
      refine Go.getI 135 rfl dX2_layMostWished_132 fl_X2_21 rfl (isT_lt ha0) (isT_sh ha0) ?_
      refine Go.bipush (-9 : Int32) 137 rfl dX2_layMostWished_135 cb_m9 ?_
      obtain ⟨S137, eS137, hf⟩ := f_bnd hf
      refine Go.cVv 140 [.int (x130S.1 a0 3), .int (-9 : Int32)] [] (C_X4_begin G l n x130S a2 (x130S.1 a0 3) (-9 : Int32) S137 ha2 eS137) rfl dX2_layMostWished_137 cv_X2_90 ha2 (by decide) (by decide) rfl (Nat.le_of_ble_eq_true rfl) ?_
      refine Go.iconst (0 : Int32) 141 rfl dX2_layMostWished_140 ci_0 ?_
      refine Go.istore_n 142 [(3, .int (0 : Int32)), (0, .ref a0), (1, .ref a1), (2, .ref a2)] rfl dX2_layMostWished_141 (by decide) rfl ?_
      refine Go.iconst (0 : Int32) 143 rfl dX2_layMostWished_142 ci_0 ?_
      refine Go.istore 145 [(4, .int (0 : Int32)), (3, .int (0 : Int32)), (0, .ref a0), (1, .ref a1), (2, .ref a2)] rfl dX2_layMostWished_143 (by decide) rfl ?_
      obtain ⟨K202, eK202, hf⟩ := f_jn hf
      have J202 : ∀ (x202S : aSt), K202 x202S = some (r, Sr) → GoM G l 6 (TmR G (some (.int r)) 97 Sr 0 0) mX2_layMostWished 202 [(0, .ref a0)] [] x202S := by
        intro x202S hf
        rw [eK202] at hf
        refine Go.aload_n 0 203 rfl dX2_layMostWished_202 rfl ?_
        obtain ⟨k203, qk203, hk203, hf⟩ := f_rfd hf
        refine Go.getR 206 rfl dX2_layMostWished_203 fl_X2_18 rfl (isT_lt ha0) (isT_sh ha0) qk203 ?_
        refine Go.iconst (0 : Int32) 207 rfl dX2_layMostWished_206 ci_0 ?_
        obtain ⟨g207, hf⟩ := f_grd hf
        refine Go.iald 208 rfl dX2_layMostWished_207 (isT_lt hk203) (isT_sh hk203) g207 ?_
        exact Go.irS rfl dX2_layMostWished_208 hf
      clear eK202
      have L145 : ∀ (fu : Nat) (l145_3 : Int32) (l145_4 : Int32) (l145S : aSt), F_X2_layMostWished_L145 n a0 a1 a2 K202 fu l145_3 l145_4 l145S = some (r, Sr) → GoM G l 6 (TmR G (some (.int r)) 97 Sr 0 0) mX2_layMostWished 145 [(0, .ref a0), (1, .ref a1), (2, .ref a2), (3, .int l145_3), (4, .int l145_4)] [] l145S := by
        intro fu
        induction fu with
        | zero => intro l145_3 l145_4 l145S hf; rw [F_X2_layMostWished_L145] at hf; cases hf
        | succ fu ih =>
          intro l145_3 l145_4 l145S hf
          rw [F_X2_layMostWished_L145] at hf
          refine Go.iload 4 147 rfl dX2_layMostWished_145 rfl ?_
          refine Go.aload_n 0 148 rfl dX2_layMostWished_147 rfl ?_
          refine Go.getI 151 rfl dX2_layMostWished_148 fl_X2_21 rfl (isT_lt ha0) (isT_sh ha0) ?_
          refine Go.icmp_ge 202 154 rfl dX2_layMostWished_151 rfl (fun hc => ?_) (fun hc => ?_)
          · replace hf := f_if hf hc
            exact Go.sub [0] [(0, .ref a0)] rfl (J202 l145S hf)
          · replace hf := f_el hf hc
            refine Go.aload_n 0 155 rfl dX2_layMostWished_154 rfl ?_
            refine Go.iload 4 157 rfl dX2_layMostWished_155 rfl ?_
            refine Go.iload_n 3 158 rfl dX2_layMostWished_157 rfl ?_
            refine Go.aload_n 1 159 rfl dX2_layMostWished_158 rfl ?_
            obtain ⟨k159, qk159, hk159, hf⟩ := f_rfd hf
            refine Go.getR 162 rfl dX2_layMostWished_159 fl_X2_102 rfl (isT_lt ha1) (isT_sh ha1) qk159 ?_
            refine Go.iload 4 164 rfl dX2_layMostWished_162 rfl ?_
            obtain ⟨g164, hf⟩ := f_grd hf
            refine Go.iald 165 rfl dX2_layMostWished_164 (isT_lt hk159) (isT_sh hk159) g164 ?_
            obtain ⟨r165, er165, hf⟩ := f_bnd hf
            refine Go.cV 168 [.int l145_4, .int l145_3, .int (l145S.1 k159 l145_4.toNatClampNeg)] [] (C_X2_firstWished G l n l145S a0 l145_4 l145_3 (l145S.1 k159 l145_4.toNatClampNeg) r165 ha0 er165) rfl dX2_layMostWished_165 cv_X2_109 ha0 (by decide) (by decide) rfl (Nat.le_of_ble_eq_true rfl) ?_
            refine Go.istore 170 [(5, .int r165), (0, .ref a0), (1, .ref a1), (2, .ref a2), (3, .int l145_3), (4, .int l145_4)] rfl dX2_layMostWished_168 (by decide) rfl ?_
            refine Go.aload_n 3 171 rfl dX2_layMostWished_170 rfl ?_
            refine Go.iload 5 173 rfl dX2_layMostWished_171 rfl ?_
            refine Go.iload 0 175 rfl dX2_layMostWished_173 rfl ?_
            obtain ⟨S175, eS175, hf⟩ := f_bnd hf
            refine Go.cVv 178 [.int l145_4, .int r165] [] (C_X4_layAt G l n l145S a2 l145_4 r165 S175 ha2 eS175) rfl dX2_layMostWished_175 cv_X2_99 ha2 (by decide) (by decide) rfl (Nat.le_of_ble_eq_true rfl) ?_
            refine Go.iload_n 4 179 rfl dX2_layMostWished_178 rfl ?_
            refine Go.iload 0 181 rfl dX2_layMostWished_179 rfl ?_
            refine Go.bipush (-9 : Int32) 183 rfl dX2_layMostWished_181 cb_m9 ?_
            obtain ⟨K194, eK194, hf⟩ := f_jn hf
            have J194 : ∀ (j194s1 : Int32), K194 j194s1 = some (r, Sr) → GoM G l 6 (TmR G (some (.int r)) 97 Sr 0 0) mX2_layMostWished 194 [(0, .ref a0), (1, .ref a1), (2, .ref a2), (4, .int l145_4)] [.int j194s1, .int l145_3] S175 := by
              intro j194s1 hf
              rw [eK194] at hf
              refine Go.ior 195 rfl dX2_layMostWished_194 ?_
              obtain ⟨v195, ev195, hf⟩ := f_nm hf
              refine Go.topi v195 ev195 ?_
              refine Go.istore_n 196 [(3, .int v195), (0, .ref a0), (1, .ref a1), (2, .ref a2), (4, .int l145_4)] rfl dX2_layMostWished_195 (by decide) rfl ?_
              refine Go.inc 4 199 (1 : Int32) [(4, .int (l145_4 + (1 : Int32))), (3, .int v195), (0, .ref a0), (1, .ref a1), (2, .ref a2)] rfl dX2_layMostWished_196 rfl ci_1 (by decide) rfl ?_
              refine Go.goto 145 dX2_layMostWished_199 rfl ?_
              exact Go.sub [2, 3, 4, 1, 0] [(0, .ref a0), (1, .ref a1), (2, .ref a2), (3, .int v195), (4, .int (l145_4 + (1 : Int32)))] rfl (ih v195 (l145_4 + (1 : Int32)) S175 hf)
            clear eK194
            refine Go.icmp_ne 190 186 rfl dX2_layMostWished_183 rfl (fun hc => ?_) (fun hc => ?_)
            · replace hf := f_el hf hc
              refine Go.iconst (1 : Int32) 191 rfl dX2_layMostWished_190 ci_1 ?_
              refine Go.iload 0 193 rfl dX2_layMostWished_191 rfl ?_
              refine Go.ishl 194 rfl dX2_layMostWished_193 ?_
              exact Go.sub [1, 2, 3, 5] [(0, .ref a0), (1, .ref a1), (2, .ref a2), (4, .int l145_4)] rfl (J194 ((1 : Int32) <<< (r165 &&& 31)) hf)
            · replace hf := f_if hf hc
              refine Go.iconst (0 : Int32) 187 rfl dX2_layMostWished_186 ci_0 ?_
              refine Go.goto 194 dX2_layMostWished_187 rfl ?_
              exact Go.sub [1, 2, 3, 5] [(0, .ref a0), (1, .ref a1), (2, .ref a2), (4, .int l145_4)] rfl (J194 (0 : Int32) hf)
      exact Go.sub [2, 3, 4, 1, 0] [(0, .ref a0), (1, .ref a1), (2, .ref a2), (3, .int (0 : Int32)), (4, .int (0 : Int32))] rfl (L145 n (0 : Int32) (0 : Int32) S137 hf)
    clear eK130
    have L44 : ∀ (fu : Nat) (l44_3 : Int32) (l44S : aSt), F_X2_layMostWished_L44 n a0 a1 K130 fu l44_3 l44S = some (r, Sr) → GoM G l 6 (TmR G (some (.int r)) 97 Sr 0 0) mX2_layMostWished 44 [(0, .ref a0), (1, .ref a1), (2, .ref a2), (3, .int l44_3)] [] l44S := by
      intro fu
      induction fu with
      | zero => intro l44_3 l44S hf; rw [F_X2_layMostWished_L44] at hf; cases hf
      | succ fu ih =>
        intro l44_3 l44S hf
        rw [F_X2_layMostWished_L44] at hf
        refine Go.iload_n 3 45 rfl dX2_layMostWished_44 rfl ?_
        refine Go.if_lt 130 48 rfl dX2_layMostWished_45 rfl (fun hc => ?_) (fun hc => ?_)
        · replace hf := f_if hf hc
          exact Go.sub [0, 1, 2] [(0, .ref a0), (1, .ref a1), (2, .ref a2)] rfl (J130 l44S hf)
        · replace hf := f_el hf hc
          refine Go.iconst (0 : Int32) 49 rfl dX2_layMostWished_48 ci_0 ?_
          refine Go.istore 51 [(4, .int (0 : Int32)), (0, .ref a0), (1, .ref a1), (2, .ref a2), (3, .int l44_3)] rfl dX2_layMostWished_49 (by decide) rfl ?_
          obtain ⟨K124, eK124, hf⟩ := f_jn hf
          have J124 : ∀ (x124S : aSt), K124 x124S = some (r, Sr) → GoM G l 6 (TmR G (some (.int r)) 97 Sr 0 0) mX2_layMostWished 124 [(0, .ref a0), (1, .ref a1), (2, .ref a2), (3, .int l44_3)] [] x124S := by
            intro x124S hf
            rw [eK124] at hf
            refine Go.inc 3 127 (-1 : Int32) [(3, .int (l44_3 + (-1 : Int32))), (0, .ref a0), (1, .ref a1), (2, .ref a2)] rfl dX2_layMostWished_124 rfl ci_m1 (by decide) rfl ?_
            refine Go.goto 44 dX2_layMostWished_127 rfl ?_
            exact Go.sub [1, 2, 3, 0] [(0, .ref a0), (1, .ref a1), (2, .ref a2), (3, .int (l44_3 + (-1 : Int32)))] rfl (ih (l44_3 + (-1 : Int32)) x124S hf)
          clear eK124
          have L51 : ∀ (fu : Nat) (l51_4 : Int32) (l51S : aSt), F_X2_layMostWished_L51 n a0 a1 l44_3 K124 fu l51_4 l51S = some (r, Sr) → GoM G l 6 (TmR G (some (.int r)) 97 Sr 0 0) mX2_layMostWished 51 [(0, .ref a0), (1, .ref a1), (2, .ref a2), (3, .int l44_3), (4, .int l51_4)] [] l51S := by
            intro fu
            induction fu with
            | zero => intro l51_4 l51S hf; rw [F_X2_layMostWished_L51] at hf; cases hf
            | succ fu ih =>
              intro l51_4 l51S hf
              rw [F_X2_layMostWished_L51] at hf
              refine Go.iload 4 53 rfl dX2_layMostWished_51 rfl ?_
              refine Go.aload_n 0 54 rfl dX2_layMostWished_53 rfl ?_
              refine Go.getI 57 rfl dX2_layMostWished_54 fl_X2_28 rfl (isT_lt ha0) (isT_sh ha0) ?_
              refine Go.icmp_ge 124 60 rfl dX2_layMostWished_57 rfl (fun hc => ?_) (fun hc => ?_)
              · replace hf := f_if hf hc
                exact Go.sub [0, 1, 2, 3] [(0, .ref a0), (1, .ref a1), (2, .ref a2), (3, .int l44_3)] rfl (J124 l51S hf)
              · replace hf := f_el hf hc
                refine Go.aload_n 0 61 rfl dX2_layMostWished_60 rfl ?_
                obtain ⟨k61, qk61, hk61, hf⟩ := f_rfd hf
                refine Go.getR 64 rfl dX2_layMostWished_61 fl_X2_15 rfl (isT_lt ha0) (isT_sh ha0) qk61 ?_
                refine Go.iload_n 3 65 rfl dX2_layMostWished_64 rfl ?_
                refine Go.sipush (128 : Int32) 68 rfl dX2_layMostWished_65 cs_128 ?_
                refine Go.imul 69 rfl dX2_layMostWished_68 ?_
                refine Go.iload 4 71 rfl dX2_layMostWished_69 rfl ?_
                refine Go.iadd 72 rfl dX2_layMostWished_71 ?_
                obtain ⟨g72, hf⟩ := f_grd hf
                refine Go.iald 73 rfl dX2_layMostWished_72 (isT_lt hk61) (isT_sh hk61) g72 ?_
                obtain ⟨K81, eK81, hf⟩ := f_jn hf
                have J81 : ∀ (j81s0 : Int32), K81 j81s0 = some (r, Sr) → GoM G l 6 (TmR G (some (.int r)) 97 Sr 0 0) mX2_layMostWished 81 [(0, .ref a0), (1, .ref a1), (2, .ref a2), (3, .int l44_3), (4, .int l51_4)] [.int j81s0] l51S := by
                  intro j81s0 hf
                  rw [eK81] at hf
                  refine Go.istore 83 [(5, .int j81s0), (0, .ref a0), (1, .ref a1), (2, .ref a2), (3, .int l44_3), (4, .int l51_4)] rfl dX2_layMostWished_81 (by decide) rfl ?_
                  refine Go.aload_n 1 84 rfl dX2_layMostWished_83 rfl ?_
                  obtain ⟨k84, qk84, hk84, hf⟩ := f_rfd hf
                  refine Go.getR 87 rfl dX2_layMostWished_84 fl_X2_18 rfl (isT_lt ha0) (isT_sh ha0) qk84 ?_
                  refine Go.iload_n 4 88 rfl dX2_layMostWished_87 rfl ?_
                  refine Go.sipush (128 : Int32) 91 rfl dX2_layMostWished_88 cs_128 ?_
                  refine Go.imul 92 rfl dX2_layMostWished_91 ?_
                  refine Go.iload 5 94 rfl dX2_layMostWished_92 rfl ?_
                  refine Go.iadd 95 rfl dX2_layMostWished_94 ?_
                  refine Go.iload 0 97 rfl dX2_layMostWished_95 rfl ?_
                  obtain ⟨K117, eK117, hf⟩ := f_jn hf
                  have J117 : ∀ (j117s2 : Int32), K117 j117s2 = some (r, Sr) → GoM G l 6 (TmR G (some (.int r)) 97 Sr 0 0) mX2_layMostWished 117 [(0, .ref a0), (1, .ref a1), (2, .ref a2), (3, .int l44_3), (4, .int l51_4)] [.int j117s2, .int ((l44_3 * (128 : Int32)) + l51_4), .ref k84] l51S := by
                    intro j117s2 hf
                    rw [eK117] at hf
                    obtain ⟨g117, hf⟩ := f_grd hf
                    obtain ⟨S117, eS117, hf⟩ := f_nm hf
                    refine Go.iast 118 rfl dX2_layMostWished_117 (isT_lt hk84) (isT_sh hk84) g117 (Go.stt S117 eS117 ?_)
                    refine Go.inc 4 121 (1 : Int32) [(4, .int (l51_4 + (1 : Int32))), (0, .ref a0), (1, .ref a1), (2, .ref a2), (3, .int l44_3)] rfl dX2_layMostWished_118 rfl ci_1 (by decide) rfl ?_
                    refine Go.goto 51 dX2_layMostWished_121 rfl ?_
                    exact Go.sub [1, 2, 3, 4, 0] [(0, .ref a0), (1, .ref a1), (2, .ref a2), (3, .int l44_3), (4, .int (l51_4 + (1 : Int32)))] rfl (ih (l51_4 + (1 : Int32)) S117 hf)
                  clear eK117
                  refine Go.if_eq 116 100 rfl dX2_layMostWished_97 rfl (fun hc => ?_) (fun hc => ?_)
                  · replace hf := f_if hf hc
                    refine Go.iconst (0 : Int32) 117 rfl dX2_layMostWished_116 ci_0 ?_
                    exact Go.sub [1, 2, 3, 4, 5] [(0, .ref a0), (1, .ref a1), (2, .ref a2), (3, .int l44_3), (4, .int l51_4)] rfl (J117 (0 : Int32) hf)
                  · replace hf := f_el hf hc
                    refine Go.aload_n 1 101 rfl dX2_layMostWished_100 rfl ?_
                    refine Go.iload_n 4 102 rfl dX2_layMostWished_101 rfl ?_
                    refine Go.iload 5 104 rfl dX2_layMostWished_102 rfl ?_
                    refine Go.aload_n 2 105 rfl dX2_layMostWished_104 rfl ?_
                    obtain ⟨k105, qk105, hk105, hf⟩ := f_rfd hf
                    refine Go.getR 108 rfl dX2_layMostWished_105 fl_X2_102 rfl (isT_lt ha1) (isT_sh ha1) qk105 ?_
                    refine Go.iload_n 4 109 rfl dX2_layMostWished_108 rfl ?_
                    obtain ⟨g109, hf⟩ := f_grd hf
                    refine Go.iald 110 rfl dX2_layMostWished_109 (isT_lt hk105) (isT_sh hk105) g109 ?_
                    obtain ⟨r110, er110, hf⟩ := f_bnd hf
                    refine Go.cV 113 [.int l44_3, .int l51_4, .int (l51S.1 k105 l44_3.toNatClampNeg)] [.int ((l44_3 * (128 : Int32)) + l51_4), .ref k84] (C_X2_mostFrom G l n l51S a0 l44_3 l51_4 (l51S.1 k105 l44_3.toNatClampNeg) r110 ha0 er110) rfl dX2_layMostWished_110 cv_X2_105 ha0 (by decide) (by decide) rfl (Nat.le_of_ble_eq_true rfl) ?_
                    refine Go.goto 117 dX2_layMostWished_113 rfl ?_
                    exact Go.sub [1, 2, 3, 4, 5] [(0, .ref a0), (1, .ref a1), (2, .ref a2), (3, .int l44_3), (4, .int l51_4)] rfl (J117 r110 hf)
                clear eK81
                refine Go.if_le 80 76 rfl dX2_layMostWished_73 rfl (fun hc => ?_) (fun hc => ?_)
                · replace hf := f_if hf hc
                  refine Go.iconst (0 : Int32) 81 rfl dX2_layMostWished_80 ci_0 ?_
                  exact J81 (0 : Int32) hf
                · replace hf := f_el hf hc
                  refine Go.iconst (1 : Int32) 77 rfl dX2_layMostWished_76 ci_1 ?_
                  refine Go.goto 81 dX2_layMostWished_77 rfl ?_
                  exact J81 (1 : Int32) hf
          exact Go.sub [1, 2, 3, 4, 0] [(0, .ref a0), (1, .ref a1), (2, .ref a2), (3, .int l44_3), (4, .int (0 : Int32))] rfl (L51 n (0 : Int32) l44S hf)
    exact Go.sub [1, 2, 3, 0] [(0, .ref a0), (1, .ref a1), (2, .ref a2), (3, .int v43)] rfl (L44 n v43 x37S hf)
  clear eK37
  have L7 : ∀ (fu : Nat) (l7_3 : Int32) (l7S : aSt), F_X2_layMostWished_L7 a0 K37 fu l7_3 l7S = some (r, Sr) → GoM G l 6 (TmR G (some (.int r)) 97 Sr 0 0) mX2_layMostWished 7 [(0, .ref a0), (1, .ref a1), (2, .ref a2), (3, .int l7_3)] [] l7S := by
    intro fu
    induction fu with
    | zero => intro l7_3 l7S hf; rw [F_X2_layMostWished_L7] at hf; cases hf
    | succ fu ih =>
      intro l7_3 l7S hf
      rw [F_X2_layMostWished_L7] at hf
      refine Go.iload_n 3 8 rfl dX2_layMostWished_7 rfl ?_
      refine Go.aload_n 0 9 rfl dX2_layMostWished_8 rfl ?_
      refine Go.getI 12 rfl dX2_layMostWished_9 fl_X2_28 rfl (isT_lt ha0) (isT_sh ha0) ?_
      refine Go.icmp_ge 37 15 rfl dX2_layMostWished_12 rfl (fun hc => ?_) (fun hc => ?_)
      · replace hf := f_if hf hc
        exact Go.sub [0, 1, 2] [(0, .ref a0), (1, .ref a1), (2, .ref a2)] rfl (J37 l7S hf)
      · replace hf := f_el hf hc
        refine Go.aload_n 0 16 rfl dX2_layMostWished_15 rfl ?_
        obtain ⟨k16, qk16, hk16, hf⟩ := f_rfd hf
        refine Go.getR 19 rfl dX2_layMostWished_16 fl_X2_18 rfl (isT_lt ha0) (isT_sh ha0) qk16 ?_
        refine Go.aload_n 0 20 rfl dX2_layMostWished_19 rfl ?_
        refine Go.getI 23 rfl dX2_layMostWished_20 fl_X2_21 rfl (isT_lt ha0) (isT_sh ha0) ?_
        refine Go.sipush (128 : Int32) 26 rfl dX2_layMostWished_23 cs_128 ?_
        refine Go.imul 27 rfl dX2_layMostWished_26 ?_
        refine Go.iload_n 3 28 rfl dX2_layMostWished_27 rfl ?_
        refine Go.iadd 29 rfl dX2_layMostWished_28 ?_
        refine Go.iconst (0 : Int32) 30 rfl dX2_layMostWished_29 ci_0 ?_
        obtain ⟨g30, hf⟩ := f_grd hf
        obtain ⟨S30, eS30, hf⟩ := f_nm hf
        refine Go.iast 31 rfl dX2_layMostWished_30 (isT_lt hk16) (isT_sh hk16) g30 (Go.stt S30 eS30 ?_)
        refine Go.inc 3 34 (1 : Int32) [(3, .int (l7_3 + (1 : Int32))), (0, .ref a0), (1, .ref a1), (2, .ref a2)] rfl dX2_layMostWished_31 rfl ci_1 (by decide) rfl ?_
        refine Go.goto 7 dX2_layMostWished_34 rfl ?_
        exact Go.sub [1, 2, 3, 0] [(0, .ref a0), (1, .ref a1), (2, .ref a2), (3, .int (l7_3 + (1 : Int32)))] rfl (ih (l7_3 + (1 : Int32)) S30 hf)
  exact Go.sub [1, 2, 3, 0] [(0, .ref a0), (1, .ref a1), (2, .ref a2), (3, .int (0 : Int32))] rfl (L7 n (0 : Int32) S2 hf)
