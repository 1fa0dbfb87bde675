/-! written by program: X6_digest -/
theorem dX6_digest_0 : decode cX6_digest 0 = .ok (.ldc2_w 296, 3) := by decide +kernel
theorem dX6_digest_3 : decode cX6_digest 3 = .ok (.lstore_n 1, 1) := by decide +kernel
theorem dX6_digest_4 : decode cX6_digest 4 = .ok (.iconst 0, 1) := by decide +kernel
theorem dX6_digest_5 : decode cX6_digest 5 = .ok (.istore_n 3, 1) := by decide +kernel
theorem dX6_digest_6 : decode cX6_digest 6 = .ok (.iload_n 3, 1) := by decide +kernel
theorem dX6_digest_7 : decode cX6_digest 7 = .ok (.bipush 9, 2) := by decide +kernel
theorem dX6_digest_9 : decode cX6_digest 9 = .ok (.if_icmp .ge 22, 3) := by decide +kernel
theorem dX6_digest_12 : decode cX6_digest 12 = .ok (.ldc2_w 298, 3) := by decide +kernel
theorem dX6_digest_15 : decode cX6_digest 15 = .ok (.lload_n 1, 1) := by decide +kernel
theorem dX6_digest_16 : decode cX6_digest 16 = .ok (.lmul, 1) := by decide +kernel
theorem dX6_digest_17 : decode cX6_digest 17 = .ok (.aload_n 0, 1) := by decide +kernel
theorem dX6_digest_18 : decode cX6_digest 18 = .ok (.iload_n 3, 1) := by decide +kernel
theorem dX6_digest_19 : decode cX6_digest 19 = .ok (.invokevirtual 300, 3) := by decide +kernel
theorem dX6_digest_22 : decode cX6_digest 22 = .ok (.i2l, 1) := by decide +kernel
theorem dX6_digest_23 : decode cX6_digest 23 = .ok (.ladd, 1) := by decide +kernel
theorem dX6_digest_24 : decode cX6_digest 24 = .ok (.lstore_n 1, 1) := by decide +kernel
theorem dX6_digest_25 : decode cX6_digest 25 = .ok (.iinc 3 1, 3) := by decide +kernel
theorem dX6_digest_28 : decode cX6_digest 28 = .ok (.goto (-22), 3) := by decide +kernel
theorem dX6_digest_31 : decode cX6_digest 31 = .ok (.aload_n 0, 1) := by decide +kernel
theorem dX6_digest_32 : decode cX6_digest 32 = .ok (.getfield 45, 3) := by decide +kernel
theorem dX6_digest_35 : decode cX6_digest 35 = .ok (.lload_n 1, 1) := by decide +kernel
theorem dX6_digest_36 : decode cX6_digest 36 = .ok (.invokevirtual 303, 3) := by decide +kernel
theorem dX6_digest_39 : decode cX6_digest 39 = .ok (.lstore_n 1, 1) := by decide +kernel
theorem dX6_digest_40 : decode cX6_digest 40 = .ok (.iconst 0, 1) := by decide +kernel
theorem dX6_digest_41 : decode cX6_digest 41 = .ok (.istore_n 3, 1) := by decide +kernel
theorem dX6_digest_42 : decode cX6_digest 42 = .ok (.iload_n 3, 1) := by decide +kernel
theorem dX6_digest_43 : decode cX6_digest 43 = .ok (.iconst 3, 1) := by decide +kernel
theorem dX6_digest_44 : decode cX6_digest 44 = .ok (.if_icmp .ge 26, 3) := by decide +kernel
theorem dX6_digest_47 : decode cX6_digest 47 = .ok (.ldc2_w 298, 3) := by decide +kernel
theorem dX6_digest_50 : decode cX6_digest 50 = .ok (.lload_n 1, 1) := by decide +kernel
theorem dX6_digest_51 : decode cX6_digest 51 = .ok (.lmul, 1) := by decide +kernel
theorem dX6_digest_52 : decode cX6_digest 52 = .ok (.aload_n 0, 1) := by decide +kernel
theorem dX6_digest_53 : decode cX6_digest 53 = .ok (.getfield 20, 3) := by decide +kernel
theorem dX6_digest_56 : decode cX6_digest 56 = .ok (.iload_n 3, 1) := by decide +kernel
theorem dX6_digest_57 : decode cX6_digest 57 = .ok (.aaload, 1) := by decide +kernel
theorem dX6_digest_58 : decode cX6_digest 58 = .ok (.getfield 112, 3) := by decide +kernel
theorem dX6_digest_61 : decode cX6_digest 61 = .ok (.i2l, 1) := by decide +kernel
theorem dX6_digest_62 : decode cX6_digest 62 = .ok (.ladd, 1) := by decide +kernel
theorem dX6_digest_63 : decode cX6_digest 63 = .ok (.lstore_n 1, 1) := by decide +kernel
theorem dX6_digest_64 : decode cX6_digest 64 = .ok (.iinc 3 1, 3) := by decide +kernel
theorem dX6_digest_67 : decode cX6_digest 67 = .ok (.goto (-25), 3) := by decide +kernel
theorem dX6_digest_70 : decode cX6_digest 70 = .ok (.iconst 0, 1) := by decide +kernel
theorem dX6_digest_71 : decode cX6_digest 71 = .ok (.istore_n 3, 1) := by decide +kernel
theorem dX6_digest_72 : decode cX6_digest 72 = .ok (.iload_n 3, 1) := by decide +kernel
theorem dX6_digest_73 : decode cX6_digest 73 = .ok (.bipush 6, 2) := by decide +kernel
theorem dX6_digest_75 : decode cX6_digest 75 = .ok (.if_icmp .ge 20, 3) := by decide +kernel
theorem dX6_digest_78 : decode cX6_digest 78 = .ok (.aload_n 0, 1) := by decide +kernel
theorem dX6_digest_79 : decode cX6_digest 79 = .ok (.getfield 11, 3) := by decide +kernel
theorem dX6_digest_82 : decode cX6_digest 82 = .ok (.iload_n 3, 1) := by decide +kernel
theorem dX6_digest_83 : decode cX6_digest 83 = .ok (.aaload, 1) := by decide +kernel
theorem dX6_digest_84 : decode cX6_digest 84 = .ok (.lload_n 1, 1) := by decide +kernel
theorem dX6_digest_85 : decode cX6_digest 85 = .ok (.invokevirtual 307, 3) := by decide +kernel
theorem dX6_digest_88 : decode cX6_digest 88 = .ok (.lstore_n 1, 1) := by decide +kernel
theorem dX6_digest_89 : decode cX6_digest 89 = .ok (.iinc 3 1, 3) := by decide +kernel
theorem dX6_digest_92 : decode cX6_digest 92 = .ok (.goto (-20), 3) := by decide +kernel
theorem dX6_digest_95 : decode cX6_digest 95 = .ok (.iconst 0, 1) := by decide +kernel
theorem dX6_digest_96 : decode cX6_digest 96 = .ok (.istore_n 3, 1) := by decide +kernel
theorem dX6_digest_97 : decode cX6_digest 97 = .ok (.iload_n 3, 1) := by decide +kernel
theorem dX6_digest_98 : decode cX6_digest 98 = .ok (.iconst 4, 1) := by decide +kernel
theorem dX6_digest_99 : decode cX6_digest 99 = .ok (.if_icmp .ge 20, 3) := by decide +kernel
theorem dX6_digest_102 : decode cX6_digest 102 = .ok (.aload_n 0, 1) := by decide +kernel
theorem dX6_digest_103 : decode cX6_digest 103 = .ok (.getfield 15, 3) := by decide +kernel
theorem dX6_digest_106 : decode cX6_digest 106 = .ok (.iload_n 3, 1) := by decide +kernel
theorem dX6_digest_107 : decode cX6_digest 107 = .ok (.aaload, 1) := by decide +kernel
theorem dX6_digest_108 : decode cX6_digest 108 = .ok (.lload_n 1, 1) := by decide +kernel
theorem dX6_digest_109 : decode cX6_digest 109 = .ok (.invokevirtual 307, 3) := by decide +kernel
theorem dX6_digest_112 : decode cX6_digest 112 = .ok (.lstore_n 1, 1) := by decide +kernel
theorem dX6_digest_113 : decode cX6_digest 113 = .ok (.iinc 3 1, 3) := by decide +kernel
theorem dX6_digest_116 : decode cX6_digest 116 = .ok (.goto (-19), 3) := by decide +kernel
theorem dX6_digest_119 : decode cX6_digest 119 = .ok (.lload_n 1, 1) := by decide +kernel
theorem dX6_digest_120 : decode cX6_digest 120 = .ok (.lreturn, 1) := by decide +kernel
def F_X6_digest_L97 (n : Nat) (S : aSt) (a0 : Nat) (K119 : Int64 → Option Int64) : Nat → Int64 → Int32 → Option Int64
  | 0, _, _ => none
  | fu + 1, l97_1, l97_3 =>
    if (4 : Int32) ≤ l97_3 then (K119 l97_1) else
    rfd (S.2.2 a0 1) 9 fun k103 =>
    grd (inb l97_3 (SH k103).2) <|
    rfd (S.2.2 k103 l97_3.toNatClampNeg) 3 fun k107 =>
    (F_X4_foldInto n S k107 l97_1).bind fun r109 =>
    F_X6_digest_L97 n S a0 K119 fu r109 (l97_3 + (1 : Int32))
def F_X6_digest_L72 (n : Nat) (S : aSt) (a0 : Nat) (K95 : Int64 → Option Int64) : Nat → Int64 → Int32 → Option Int64
  | 0, _, _ => none
  | fu + 1, l72_1, l72_3 =>
    if (6 : Int32) ≤ l72_3 then (K95 l72_1) else
    rfd (S.2.2 a0 0) 9 fun k79 =>
    grd (inb l72_3 (SH k79).2) <|
    rfd (S.2.2 k79 l72_3.toNatClampNeg) 3 fun k83 =>
    (F_X4_foldInto n S k83 l72_1).bind fun r85 =>
    F_X6_digest_L72 n S a0 K95 fu r85 (l72_3 + (1 : Int32))
def F_X6_digest_L42 (S : aSt) (a0 : Nat) (K70 : Int64 → Option Int64) : Nat → Int64 → Int32 → Option Int64
  | 0, _, _ => none
  | fu + 1, l42_1, l42_3 =>
    if (3 : Int32) ≤ l42_3 then (K70 l42_1) else
    rfd (S.2.2 a0 2) 10 fun k53 =>
    grd (inb l42_3 (SH k53).2) <|
    rfd (S.2.2 k53 l42_3.toNatClampNeg) 4 fun k57 =>
    nm (((31 : Int64) * l42_1) + (S.1 k57 6).toInt64) fun v63 =>
    F_X6_digest_L42 S a0 K70 fu v63 (l42_3 + (1 : Int32))
def F_X6_digest_L6 (n : Nat) (S : aSt) (a0 : Nat) (K31 : Int64 → Option Int64) : Nat → Int64 → Int32 → Option Int64
  | 0, _, _ => none
  | fu + 1, l6_1, l6_3 =>
    if (9 : Int32) ≤ l6_3 then (K31 l6_1) else
    (F_X6_count n S a0 l6_3).bind fun r19 =>
    nm (((31 : Int64) * l6_1) + r19.toInt64) fun v24 =>
    F_X6_digest_L6 n S a0 K31 fu v24 (l6_3 + (1 : Int32))
def F_X6_digest (n : Nat) (S : aSt) (a0 : Nat) : Option Int64 :=
jn (fun (x31_1 : Int64) => (rfd (S.2.2 a0 6) 0 fun k32 =>
(F_X1_foldInto n S k32 x31_1).bind fun r36 =>
jn (fun (x70_1 : Int64) => (jn (fun (x95_1 : Int64) => (jn (fun (x119_1 : Int64) => (some x119_1 : Option Int64)) fun K119 =>
F_X6_digest_L97 n S a0 K119 n x95_1 (0 : Int32) : Option Int64)) fun K95 =>
F_X6_digest_L72 n S a0 K95 n x70_1 (0 : Int32) : Option Int64)) fun K70 =>
F_X6_digest_L42 S a0 K70 n r36 (0 : Int32) : Option Int64)) fun K31 =>
F_X6_digest_L6 n S a0 K31 n (17 : Int64) (0 : Int32)
set_option maxHeartbeats 4000000 in
set_option maxRecDepth 100000 in
theorem C_X6_digest (G : aG) (l : Launch) (n : Nat) (S : aSt) (a0 : Nat) (r : Int64) (ha0 : isT a0 5 = true) (hf : F_X6_digest n S a0 = some r) : Ctr G l yX6_digest mX6_digest (rmM 5) 97 97 S [.ref a0] (some (.long r)) S := by
  refine Ctr.of (by decide) rfl rfl (Nat.le_of_ble_eq_true rfl) [(0, .ref a0)] rfl ?_
  unfold F_X6_digest at hf
  refine Go.ldc2 (17 : Int64) 3 rfl dX6_digest_0 (am_mem 817 (by decide +kernel) rfl) ?_
  refine Go.lstore_n 4 [(1, .long (17 : Int64)), (0, .ref a0)] rfl dX6_digest_3 (by decide) rfl ?_
  refine Go.iconst (0 : Int32) 5 rfl dX6_digest_4 ci_0 ?_
  refine Go.istore_n 6 [(3, .int (0 : Int32)), (1, .long (17 : Int64)), (0, .ref a0)] rfl dX6_digest_5 (by decide) rfl ?_
  obtain ⟨K31, eK31, hf⟩ := f_jn hf
  have J31 : ∀ (x31_1 : Int64), K31 x31_1 = some r → GoM G l 5 (TmR G (some (.long r)) 97 S 0 0) mX6_digest 31 [(0, .ref a0), (1, .long x31_1)] [] S := by
    intro x31_1 hf
    rw [eK31] at hf
    refine Go.aload_n 0 32 rfl dX6_digest_31 rfl ?_
    obtain ⟨k32, qk32, hk32, hf⟩ := f_rfd hf
    refine Go.getR 35 rfl dX6_digest_32 fl_X6_45 rfl (isT_lt ha0) (isT_sh ha0) qk32 ?_
    refine Go.lload_n 1 36 rfl dX6_digest_35 rfl ?_
    obtain ⟨r36, er36, hf⟩ := f_bnd hf
    refine Go.cV 39 [.long x31_1] [] (C_X1_foldInto G l n S k32 x31_1 r36 hk32 er36) rfl dX6_digest_36 cv_X6_303 hk32 (by decide) (by decide) rfl (Nat.le_of_ble_eq_true rfl) ?_
    refine Go.lstore_n 40 [(1, .long r36), (0, .ref a0)] rfl dX6_digest_39 (by decide) rfl ?_
    refine Go.iconst (0 : Int32) 41 rfl dX6_digest_40 ci_0 ?_
    refine Go.istore_n 42 [(3, .int (0 : Int32)), (1, .long r36), (0, .ref a0)] rfl dX6_digest_41 (by decide) rfl ?_
    obtain ⟨K70, eK70, hf⟩ := f_jn hf
    have J70 : ∀ (x70_1 : Int64), K70 x70_1 = some r → GoM G l 5 (TmR G (some (.long r)) 97 S 0 0) mX6_digest 70 [(0, .ref a0), (1, .long x70_1)] [] S := by
      intro x70_1 hf
      rw [eK70] at hf
      refine Go.iconst (0 : Int32) 71 rfl dX6_digest_70 ci_0 ?_
      refine Go.istore_n 72 [(3, .int (0 : Int32)), (0, .ref a0), (1, .long x70_1)] rfl dX6_digest_71 (by decide) rfl ?_
      obtain ⟨K95, eK95, hf⟩ := f_jn hf
      have J95 : ∀ (x95_1 : Int64), K95 x95_1 = some r → GoM G l 5 (TmR G (some (.long r)) 97 S 0 0) mX6_digest 95 [(0, .ref a0), (1, .long x95_1)] [] S := by
        intro x95_1 hf
        rw [eK95] at hf
        refine Go.iconst (0 : Int32) 96 rfl dX6_digest_95 ci_0 ?_
        refine Go.istore_n 97 [(3, .int (0 : Int32)), (0, .ref a0), (1, .long x95_1)] rfl dX6_digest_96 (by decide) rfl ?_
        obtain ⟨K119, eK119, hf⟩ := f_jn hf
        have J119 : ∀ (x119_1 : Int64), K119 x119_1 = some r → GoM G l 5 (TmR G (some (.long r)) 97 S 0 0) mX6_digest 119 [(1, .long x119_1)] [] S := by
          intro x119_1 hf
          rw [eK119] at hf
          refine Go.lload_n 0 120 rfl dX6_digest_119 rfl ?_
          exact Go.lr rfl dX6_digest_120 hf
        clear eK119
        have L97 : ∀ (fu : Nat) (l97_1 : Int64) (l97_3 : Int32), F_X6_digest_L97 n S a0 K119 fu l97_1 l97_3 = some r → GoM G l 5 (TmR G (some (.long r)) 97 S 0 0) mX6_digest 97 [(0, .ref a0), (1, .long l97_1), (3, .int l97_3)] [] S := by
          intro fu
          induction fu with
          | zero => intro l97_1 l97_3 hf; rw [F_X6_digest_L97] at hf; cases hf
          | succ fu ih =>
            intro l97_1 l97_3 hf
            rw [F_X6_digest_L97] at hf
            refine Go.iload_n 2 98 rfl dX6_digest_97 rfl ?_
            refine Go.iconst (4 : Int32) 99 rfl dX6_digest_98 ci_4 ?_
            refine Go.icmp_ge 119 102 rfl dX6_digest_99 rfl (fun hc => ?_) (fun hc => ?_)
            · replace hf := f_if hf hc
              exact Go.sub [1] [(1, .long l97_1)] rfl (J119 l97_1 hf)
            · replace hf := f_el hf hc
              refine Go.aload_n 0 103 rfl dX6_digest_102 rfl ?_
              obtain ⟨k103, qk103, hk103, hf⟩ := f_rfd hf
              refine Go.getR 106 rfl dX6_digest_103 fl_X6_15 rfl (isT_lt ha0) (isT_sh ha0) qk103 ?_
              refine Go.iload_n 2 107 rfl dX6_digest_106 rfl ?_
              obtain ⟨g107, hf⟩ := f_grd hf
              obtain ⟨k107, qk107, hk107, hf⟩ := f_rfd hf
              refine Go.aaldR 108 rfl dX6_digest_107 (isT_lt hk103) (isT_sh hk103) g107 qk107 ?_
              refine Go.lload_n 1 109 rfl dX6_digest_108 rfl ?_
              obtain ⟨r109, er109, hf⟩ := f_bnd hf
              refine Go.cV 112 [.long l97_1] [] (C_X4_foldInto G l n S k107 l97_1 r109 hk107 er109) rfl dX6_digest_109 cv_X6_307 hk107 (by decide) (by decide) rfl (Nat.le_of_ble_eq_true rfl) ?_
              refine Go.lstore_n 113 [(1, .long r109), (0, .ref a0), (3, .int l97_3)] rfl dX6_digest_112 (by decide) rfl ?_
              refine Go.inc 2 116 (1 : Int32) [(3, .int (l97_3 + (1 : Int32))), (1, .long r109), (0, .ref a0)] rfl dX6_digest_113 rfl ci_1 (by decide) rfl ?_
              refine Go.goto 97 dX6_digest_116 rfl ?_
              exact Go.sub [2, 1, 0] [(0, .ref a0), (1, .long r109), (3, .int (l97_3 + (1 : Int32)))] rfl (ih r109 (l97_3 + (1 : Int32)) hf)
        exact Go.sub [1, 2, 0] [(0, .ref a0), (1, .long x95_1), (3, .int (0 : Int32))] rfl (L97 n x95_1 (0 : Int32) hf)
      clear eK95
      have L72 : ∀ (fu : Nat) (l72_1 : Int64) (l72_3 : Int32), F_X6_digest_L72 n S a0 K95 fu l72_1 l72_3 = some r → GoM G l 5 (TmR G (some (.long r)) 97 S 0 0) mX6_digest 72 [(0, .ref a0), (1, .long l72_1), (3, .int l72_3)] [] S := by
        intro fu
        induction fu with
        | zero => intro l72_1 l72_3 hf; rw [F_X6_digest_L72] at hf; cases hf
        | succ fu ih =>
          intro l72_1 l72_3 hf
          rw [F_X6_digest_L72] at hf
          refine Go.iload_n 2 73 rfl dX6_digest_72 rfl ?_
          refine Go.bipush (6 : Int32) 75 rfl dX6_digest_73 cb_6 ?_
          refine Go.icmp_ge 95 78 rfl dX6_digest_75 rfl (fun hc => ?_) (fun hc => ?_)
          · replace hf := f_if hf hc
            exact Go.sub [0, 1] [(0, .ref a0), (1, .long l72_1)] rfl (J95 l72_1 hf)
          · replace hf := f_el hf hc
            refine Go.aload_n 0 79 rfl dX6_digest_78 rfl ?_
            obtain ⟨k79, qk79, hk79, hf⟩ := f_rfd hf
            refine Go.getR 82 rfl dX6_digest_79 fl_X6_11 rfl (isT_lt ha0) (isT_sh ha0) qk79 ?_
            refine Go.iload_n 2 83 rfl dX6_digest_82 rfl ?_
            obtain ⟨g83, hf⟩ := f_grd hf
            obtain ⟨k83, qk83, hk83, hf⟩ := f_rfd hf
            refine Go.aaldR 84 rfl dX6_digest_83 (isT_lt hk79) (isT_sh hk79) g83 qk83 ?_
            refine Go.lload_n 1 85 rfl dX6_digest_84 rfl ?_
            obtain ⟨r85, er85, hf⟩ := f_bnd hf
            refine Go.cV 88 [.long l72_1] [] (C_X4_foldInto G l n S k83 l72_1 r85 hk83 er85) rfl dX6_digest_85 cv_X6_307 hk83 (by decide) (by decide) rfl (Nat.le_of_ble_eq_true rfl) ?_
            refine Go.lstore_n 89 [(1, .long r85), (0, .ref a0), (3, .int l72_3)] rfl dX6_digest_88 (by decide) rfl ?_
            refine Go.inc 2 92 (1 : Int32) [(3, .int (l72_3 + (1 : Int32))), (1, .long r85), (0, .ref a0)] rfl dX6_digest_89 rfl ci_1 (by decide) rfl ?_
            refine Go.goto 72 dX6_digest_92 rfl ?_
            exact Go.sub [2, 1, 0] [(0, .ref a0), (1, .long r85), (3, .int (l72_3 + (1 : Int32)))] rfl (ih r85 (l72_3 + (1 : Int32)) hf)
      exact Go.sub [1, 2, 0] [(0, .ref a0), (1, .long x70_1), (3, .int (0 : Int32))] rfl (L72 n x70_1 (0 : Int32) hf)
    clear eK70
    have L42 : ∀ (fu : Nat) (l42_1 : Int64) (l42_3 : Int32), F_X6_digest_L42 S a0 K70 fu l42_1 l42_3 = some r → GoM G l 5 (TmR G (some (.long r)) 97 S 0 0) mX6_digest 42 [(0, .ref a0), (1, .long l42_1), (3, .int l42_3)] [] S := by
      intro fu
      induction fu with
      | zero => intro l42_1 l42_3 hf; rw [F_X6_digest_L42] at hf; cases hf
      | succ fu ih =>
        intro l42_1 l42_3 hf
        rw [F_X6_digest_L42] at hf
        refine Go.iload_n 2 43 rfl dX6_digest_42 rfl ?_
        refine Go.iconst (3 : Int32) 44 rfl dX6_digest_43 ci_3 ?_
        refine Go.icmp_ge 70 47 rfl dX6_digest_44 rfl (fun hc => ?_) (fun hc => ?_)
        · replace hf := f_if hf hc
          exact Go.sub [0, 1] [(0, .ref a0), (1, .long l42_1)] rfl (J70 l42_1 hf)
        · replace hf := f_el hf hc
          refine Go.ldc2 (31 : Int64) 50 rfl dX6_digest_47 (am_mem 818 (by decide +kernel) rfl) ?_
          refine Go.lload_n 1 51 rfl dX6_digest_50 rfl ?_
          refine Go.lmul 52 rfl dX6_digest_51 ?_
          refine Go.aload_n 0 53 rfl dX6_digest_52 rfl ?_
          obtain ⟨k53, qk53, hk53, hf⟩ := f_rfd hf
          refine Go.getR 56 rfl dX6_digest_53 fl_X6_20 rfl (isT_lt ha0) (isT_sh ha0) qk53 ?_
          refine Go.iload_n 2 57 rfl dX6_digest_56 rfl ?_
          obtain ⟨g57, hf⟩ := f_grd hf
          obtain ⟨k57, qk57, hk57, hf⟩ := f_rfd hf
          refine Go.aaldS 58 rfl dX6_digest_57 (isT_lt hk53) (isT_sh hk53) g57 qk57 ?_
          refine Go.getI 61 rfl dX6_digest_58 fl_X6_112 rfl (isT_lt hk57) (isT_sh hk57) ?_
          refine Go.i2l 62 rfl dX6_digest_61 ?_
          refine Go.ladd 63 rfl dX6_digest_62 ?_
          obtain ⟨v63, ev63, hf⟩ := f_nm hf
          refine Go.topl v63 ev63 ?_
          refine Go.lstore_n 64 [(1, .long v63), (0, .ref a0), (3, .int l42_3)] rfl dX6_digest_63 (by decide) rfl ?_
          refine Go.inc 2 67 (1 : Int32) [(3, .int (l42_3 + (1 : Int32))), (1, .long v63), (0, .ref a0)] rfl dX6_digest_64 rfl ci_1 (by decide) rfl ?_
          refine Go.goto 42 dX6_digest_67 rfl ?_
          exact Go.sub [2, 1, 0] [(0, .ref a0), (1, .long v63), (3, .int (l42_3 + (1 : Int32)))] rfl (ih v63 (l42_3 + (1 : Int32)) hf)
    exact Go.sub [2, 1, 0] [(0, .ref a0), (1, .long r36), (3, .int (0 : Int32))] rfl (L42 n r36 (0 : Int32) hf)
  clear eK31
  have L6 : ∀ (fu : Nat) (l6_1 : Int64) (l6_3 : Int32), F_X6_digest_L6 n S a0 K31 fu l6_1 l6_3 = some r → GoM G l 5 (TmR G (some (.long r)) 97 S 0 0) mX6_digest 6 [(0, .ref a0), (1, .long l6_1), (3, .int l6_3)] [] S := by
    intro fu
    induction fu with
    | zero => intro l6_1 l6_3 hf; rw [F_X6_digest_L6] at hf; cases hf
    | succ fu ih =>
      intro l6_1 l6_3 hf
      rw [F_X6_digest_L6] at hf
      refine Go.iload_n 2 7 rfl dX6_digest_6 rfl ?_
      refine Go.bipush (9 : Int32) 9 rfl dX6_digest_7 cb_9 ?_
      refine Go.icmp_ge 31 12 rfl dX6_digest_9 rfl (fun hc => ?_) (fun hc => ?_)
      · replace hf := f_if hf hc
        exact Go.sub [0, 1] [(0, .ref a0), (1, .long l6_1)] rfl (J31 l6_1 hf)
      · replace hf := f_el hf hc
        refine Go.ldc2 (31 : Int64) 15 rfl dX6_digest_12 (am_mem 818 (by decide +kernel) rfl) ?_
        refine Go.lload_n 1 16 rfl dX6_digest_15 rfl ?_
        refine Go.lmul 17 rfl dX6_digest_16 ?_
        refine Go.aload_n 0 18 rfl dX6_digest_17 rfl ?_
        refine Go.iload_n 2 19 rfl dX6_digest_18 rfl ?_
        obtain ⟨r19, er19, hf⟩ := f_bnd hf
        refine Go.cV 22 [.int l6_3] [.long ((31 : Int64) * l6_1)] (C_X6_count G l n S a0 l6_3 r19 ha0 er19) rfl dX6_digest_19 cv_X6_300 ha0 (by decide) (by decide) rfl (Nat.le_of_ble_eq_true rfl) ?_
        refine Go.i2l 23 rfl dX6_digest_22 ?_
        refine Go.ladd 24 rfl dX6_digest_23 ?_
        obtain ⟨v24, ev24, hf⟩ := f_nm hf
        refine Go.topl v24 ev24 ?_
        refine Go.lstore_n 25 [(1, .long v24), (0, .ref a0), (3, .int l6_3)] rfl dX6_digest_24 (by decide) rfl ?_
        refine Go.inc 2 28 (1 : Int32) [(3, .int (l6_3 + (1 : Int32))), (1, .long v24), (0, .ref a0)] rfl dX6_digest_25 rfl ci_1 (by decide) rfl ?_
        refine Go.goto 6 dX6_digest_28 rfl ?_
        exact Go.sub [2, 1, 0] [(0, .ref a0), (1, .long v24), (3, .int (l6_3 + (1 : Int32)))] rfl (ih v24 (l6_3 + (1 : Int32)) hf)
  exact Go.sub [2, 1, 0] [(0, .ref a0), (1, .long (17 : Int64)), (3, .int (0 : Int32))] rfl (L6 n (17 : Int64) (0 : Int32) hf)
