/-! written by program: X7_habit X7_order X7_byAge X7_lots X7_asked X7_upper X7_lower X7_counted X7_count X7_finding -/
theorem dX7_habit_0 : decode cX7_habit 0 = .ok (.iconst 0, 1) := by decide +kernel
theorem dX7_habit_1 : decode cX7_habit 1 = .ok (.istore_n 1, 1) := by decide +kernel
theorem dX7_habit_2 : decode cX7_habit 2 = .ok (.iconst 0, 1) := by decide +kernel
theorem dX7_habit_3 : decode cX7_habit 3 = .ok (.istore_n 2, 1) := by decide +kernel
theorem dX7_habit_4 : decode cX7_habit 4 = .ok (.iconst 0, 1) := by decide +kernel
theorem dX7_habit_5 : decode cX7_habit 5 = .ok (.istore_n 3, 1) := by decide +kernel
theorem dX7_habit_6 : decode cX7_habit 6 = .ok (.iload_n 3, 1) := by decide +kernel
theorem dX7_habit_7 : decode cX7_habit 7 = .ok (.aload_n 0, 1) := by decide +kernel
theorem dX7_habit_8 : decode cX7_habit 8 = .ok (.getfield 22, 3) := by decide +kernel
theorem dX7_habit_11 : decode cX7_habit 11 = .ok (.iconst 0, 1) := by decide +kernel
theorem dX7_habit_12 : decode cX7_habit 12 = .ok (.iaload, 1) := by decide +kernel
theorem dX7_habit_13 : decode cX7_habit 13 = .ok (.if_icmp .ge 113, 3) := by decide +kernel
theorem dX7_habit_16 : decode cX7_habit 16 = .ok (.iconst 0, 1) := by decide +kernel
theorem dX7_habit_17 : decode cX7_habit 17 = .ok (.istore 4, 2) := by decide +kernel
theorem dX7_habit_19 : decode cX7_habit 19 = .ok (.iconst 1, 1) := by decide +kernel
theorem dX7_habit_20 : decode cX7_habit 20 = .ok (.istore 5, 2) := by decide +kernel
theorem dX7_habit_22 : decode cX7_habit 22 = .ok (.iload 5, 2) := by decide +kernel
theorem dX7_habit_24 : decode cX7_habit 24 = .ok (.iconst 4, 1) := by decide +kernel
theorem dX7_habit_25 : decode cX7_habit 25 = .ok (.if_icmp .ge 49, 3) := by decide +kernel
theorem dX7_habit_28 : decode cX7_habit 28 = .ok (.aload_n 0, 1) := by decide +kernel
theorem dX7_habit_29 : decode cX7_habit 29 = .ok (.aload_n 0, 1) := by decide +kernel
theorem dX7_habit_30 : decode cX7_habit 30 = .ok (.getfield 22, 3) := by decide +kernel
theorem dX7_habit_33 : decode cX7_habit 33 = .ok (.iconst 3, 1) := by decide +kernel
theorem dX7_habit_34 : decode cX7_habit 34 = .ok (.iload_n 3, 1) := by decide +kernel
theorem dX7_habit_35 : decode cX7_habit 35 = .ok (.iadd, 1) := by decide +kernel
theorem dX7_habit_36 : decode cX7_habit 36 = .ok (.iaload, 1) := by decide +kernel
theorem dX7_habit_37 : decode cX7_habit 37 = .ok (.iload 5, 2) := by decide +kernel
theorem dX7_habit_39 : decode cX7_habit 39 = .ok (.invokevirtual 210, 3) := by decide +kernel
theorem dX7_habit_42 : decode cX7_habit 42 = .ok (.aload_n 0, 1) := by decide +kernel
theorem dX7_habit_43 : decode cX7_habit 43 = .ok (.aload_n 0, 1) := by decide +kernel
theorem dX7_habit_44 : decode cX7_habit 44 = .ok (.getfield 22, 3) := by decide +kernel
theorem dX7_habit_47 : decode cX7_habit 47 = .ok (.iconst 3, 1) := by decide +kernel
theorem dX7_habit_48 : decode cX7_habit 48 = .ok (.iload_n 3, 1) := by decide +kernel
theorem dX7_habit_49 : decode cX7_habit 49 = .ok (.iadd, 1) := by decide +kernel
theorem dX7_habit_50 : decode cX7_habit 50 = .ok (.iaload, 1) := by decide +kernel
theorem dX7_habit_51 : decode cX7_habit 51 = .ok (.iload 4, 2) := by decide +kernel
theorem dX7_habit_53 : decode cX7_habit 53 = .ok (.invokevirtual 210, 3) := by decide +kernel
theorem dX7_habit_56 : decode cX7_habit 56 = .ok (.if_icmp .le 8, 3) := by decide +kernel
theorem dX7_habit_59 : decode cX7_habit 59 = .ok (.iload 5, 2) := by decide +kernel
theorem dX7_habit_61 : decode cX7_habit 61 = .ok (.goto 5, 3) := by decide +kernel
theorem dX7_habit_64 : decode cX7_habit 64 = .ok (.iload 4, 2) := by decide +kernel
theorem dX7_habit_66 : decode cX7_habit 66 = .ok (.istore 4, 2) := by decide +kernel
theorem dX7_habit_68 : decode cX7_habit 68 = .ok (.iinc 5 1, 3) := by decide +kernel
theorem dX7_habit_71 : decode cX7_habit 71 = .ok (.goto (-49), 3) := by decide +kernel
theorem dX7_habit_74 : decode cX7_habit 74 = .ok (.iload_n 1, 1) := by decide +kernel
theorem dX7_habit_75 : decode cX7_habit 75 = .ok (.aload_n 0, 1) := by decide +kernel
theorem dX7_habit_76 : decode cX7_habit 76 = .ok (.getfield 22, 3) := by decide +kernel
theorem dX7_habit_79 : decode cX7_habit 79 = .ok (.bipush 17, 2) := by decide +kernel
theorem dX7_habit_81 : decode cX7_habit 81 = .ok (.iload_n 3, 1) := by decide +kernel
theorem dX7_habit_82 : decode cX7_habit 82 = .ok (.iadd, 1) := by decide +kernel
theorem dX7_habit_83 : decode cX7_habit 83 = .ok (.iaload, 1) := by decide +kernel
theorem dX7_habit_84 : decode cX7_habit 84 = .ok (.iload 4, 2) := by decide +kernel
theorem dX7_habit_86 : decode cX7_habit 86 = .ok (.if_icmp .ne 7, 3) := by decide +kernel
theorem dX7_habit_89 : decode cX7_habit 89 = .ok (.iconst 1, 1) := by decide +kernel
theorem dX7_habit_90 : decode cX7_habit 90 = .ok (.goto 4, 3) := by decide +kernel
theorem dX7_habit_93 : decode cX7_habit 93 = .ok (.iconst 0, 1) := by decide +kernel
theorem dX7_habit_94 : decode cX7_habit 94 = .ok (.iadd, 1) := by decide +kernel
theorem dX7_habit_95 : decode cX7_habit 95 = .ok (.istore_n 1, 1) := by decide +kernel
theorem dX7_habit_96 : decode cX7_habit 96 = .ok (.iload_n 2, 1) := by decide +kernel
theorem dX7_habit_97 : decode cX7_habit 97 = .ok (.aload_n 0, 1) := by decide +kernel
theorem dX7_habit_98 : decode cX7_habit 98 = .ok (.getfield 22, 3) := by decide +kernel
theorem dX7_habit_101 : decode cX7_habit 101 = .ok (.bipush 17, 2) := by decide +kernel
theorem dX7_habit_103 : decode cX7_habit 103 = .ok (.iload_n 3, 1) := by decide +kernel
theorem dX7_habit_104 : decode cX7_habit 104 = .ok (.iadd, 1) := by decide +kernel
theorem dX7_habit_105 : decode cX7_habit 105 = .ok (.iaload, 1) := by decide +kernel
theorem dX7_habit_106 : decode cX7_habit 106 = .ok (.iload 4, 2) := by decide +kernel
theorem dX7_habit_108 : decode cX7_habit 108 = .ok (.if_icmp .ne 7, 3) := by decide +kernel
theorem dX7_habit_111 : decode cX7_habit 111 = .ok (.iconst 0, 1) := by decide +kernel
theorem dX7_habit_112 : decode cX7_habit 112 = .ok (.goto 6, 3) := by decide +kernel
theorem dX7_habit_115 : decode cX7_habit 115 = .ok (.iconst 1, 1) := by decide +kernel
theorem dX7_habit_116 : decode cX7_habit 116 = .ok (.iload_n 3, 1) := by decide +kernel
theorem dX7_habit_117 : decode cX7_habit 117 = .ok (.ishl, 1) := by decide +kernel
theorem dX7_habit_118 : decode cX7_habit 118 = .ok (.ior, 1) := by decide +kernel
theorem dX7_habit_119 : decode cX7_habit 119 = .ok (.istore_n 2, 1) := by decide +kernel
theorem dX7_habit_120 : decode cX7_habit 120 = .ok (.iinc 3 1, 3) := by decide +kernel
theorem dX7_habit_123 : decode cX7_habit 123 = .ok (.goto (-117), 3) := by decide +kernel
theorem dX7_habit_126 : decode cX7_habit 126 = .ok (.aload_n 0, 1) := by decide +kernel
theorem dX7_habit_127 : decode cX7_habit 127 = .ok (.iload_n 2, 1) := by decide +kernel
theorem dX7_habit_128 : decode cX7_habit 128 = .ok (.invokevirtual 80, 3) := by decide +kernel
theorem dX7_habit_131 : decode cX7_habit 131 = .ok (.istore_n 3, 1) := by decide +kernel
theorem dX7_habit_132 : decode cX7_habit 132 = .ok (.iload_n 1, 1) := by decide +kernel
theorem dX7_habit_133 : decode cX7_habit 133 = .ok (.ireturn, 1) := by decide +kernel
def F_X7_habit_L22 (n : Nat) (S : aSt) (a0 : Nat) (l6_3 : Int32) (k8 : Nat) (K74 : Int32 → Option (Int32 × aSt)) : Nat → Int32 → Int32 → Option (Int32 × aSt)
  | 0, _, _ => none
  | fu + 1, l22_4, l22_5 =>
    if (4 : Int32) ≤ l22_5 then (K74 l22_4) else
    grd (inb ((3 : Int32) + l6_3) (SH k8).2) <|
    (F_X7_lying n S a0 (S.1 k8 ((3 : Int32) + l6_3).toNatClampNeg) l22_5).bind fun r39 =>
    grd (inb ((3 : Int32) + l6_3) (SH k8).2) <|
    (F_X7_lying n S a0 (S.1 k8 ((3 : Int32) + l6_3).toNatClampNeg) l22_4).bind fun r53 =>
    jn (fun (j66s0 : Int32) => (F_X7_habit_L22 n S a0 l6_3 k8 K74 fu j66s0 (l22_5 + (1 : Int32)) : Option (Int32 × aSt))) fun K66 =>
    if r39 ≤ r53 then (K66 l22_4) else
    K66 l22_5
def F_X7_habit_L6 (n : Nat) (S : aSt) (a0 : Nat) (K126 : Int32 → Int32 → Option (Int32 × aSt)) : Nat → Int32 → Int32 → Int32 → Option (Int32 × aSt)
  | 0, _, _, _ => none
  | fu + 1, l6_1, l6_2, l6_3 =>
    rfd (S.2.2 a0 4) 7 fun k8 =>
    grd (inb (0 : Int32) (SH k8).2) <|
    if (S.1 k8 (0 : Int32).toNatClampNeg) ≤ l6_3 then (K126 l6_1 l6_2) else
    jn (fun (x74_4 : Int32) => (grd (inb ((17 : Int32) + l6_3) (SH k8).2) <|
    jn (fun (j94s1 : Int32) => (nm (l6_1 + j94s1) fun v95 =>
    grd (inb ((17 : Int32) + l6_3) (SH k8).2) <|
    jn (fun (j118s1 : Int32) => (nm (l6_2 ||| j118s1) fun v119 =>
    F_X7_habit_L6 n S a0 K126 fu v95 v119 (l6_3 + (1 : Int32)) : Option (Int32 × aSt))) fun K118 =>
    if (S.1 k8 ((17 : Int32) + l6_3).toNatClampNeg) = x74_4 then (K118 (0 : Int32)) else
    K118 ((1 : Int32) <<< (l6_3 &&& 31)) : Option (Int32 × aSt))) fun K94 =>
    if (S.1 k8 ((17 : Int32) + l6_3).toNatClampNeg) = x74_4 then (K94 (1 : Int32)) else
    K94 (0 : Int32) : Option (Int32 × aSt))) fun K74 =>
    F_X7_habit_L22 n S a0 l6_3 k8 K74 n (0 : Int32) (1 : Int32)
def F_X7_habit (n : Nat) (S : aSt) (a0 : Nat) : Option (Int32 × aSt) :=
jn (fun (x126_1 : Int32) (x126_2 : Int32) => (bn2 (F_X7_tell n S a0 x126_2) fun r128 S128 =>
some (x126_1, S128) : Option (Int32 × aSt))) fun K126 =>
F_X7_habit_L6 n S a0 K126 n (0 : Int32) (0 : Int32) (0 : Int32)
set_option maxHeartbeats 4000000 in
set_option maxRecDepth 100000 in
theorem C_X7_habit (G : aG) (l : Launch) (n : Nat) (S : aSt) (a0 : Nat) (r : Int32) (Sr : aSt) (ha0 : isT a0 6 = true) (hf : F_X7_habit n S a0 = some (r, Sr)) : Ctr G l yX7_habit mX7_habit (rmM 2) 97 97 S [.ref a0] (some (.int r)) Sr := by
  refine Ctr.of (by decide) rfl rfl (Nat.le_of_ble_eq_true rfl) [(0, .ref a0)] rfl ?_
  unfold F_X7_habit at hf
  refine Go.iconst (0 : Int32) 1 rfl dX7_habit_0 ci_0 ?_
  refine Go.istore_n 2 [(1, .int (0 : Int32)), (0, .ref a0)] rfl dX7_habit_1 (by decide) rfl ?_
  refine Go.iconst (0 : Int32) 3 rfl dX7_habit_2 ci_0 ?_
  refine Go.istore_n 4 [(2, .int (0 : Int32)), (1, .int (0 : Int32)), (0, .ref a0)] rfl dX7_habit_3 (by decide) rfl ?_
  refine Go.iconst (0 : Int32) 5 rfl dX7_habit_4 ci_0 ?_
  refine Go.istore_n 6 [(3, .int (0 : Int32)), (2, .int (0 : Int32)), (1, .int (0 : Int32)), (0, .ref a0)] rfl dX7_habit_5 (by decide) rfl ?_
  obtain ⟨K126, eK126, hf⟩ := f_jn hf
  have J126 : ∀ (x126_1 : Int32) (x126_2 : Int32), K126 x126_1 x126_2 = some (r, Sr) → GoM G l 2 (TmR G (some (.int r)) 97 Sr 0 0) mX7_habit 126 [(0, .ref a0), (1, .int x126_1), (2, .int x126_2)] [] S := by
    intro x126_1 x126_2 hf
    rw [eK126] at hf
    refine Go.aload_n 0 127 rfl dX7_habit_126 rfl ?_
    refine Go.iload_n 2 128 rfl dX7_habit_127 rfl ?_
    obtain ⟨r128, S128, er128, hf⟩ := f_bn2 hf
    refine Go.cV 131 [.int x126_2] [] (C_X7_tell G l n S a0 x126_2 r128 S128 ha0 er128) rfl dX7_habit_128 cv_X7_80 ha0 (by decide) (by decide) rfl (Nat.le_of_ble_eq_true rfl) ?_
    refine Go.istore_n 132 [(3, .int r128), (0, .ref a0), (1, .int x126_1), (2, .int x126_2)] rfl dX7_habit_131 (by decide) rfl ?_
    refine Go.iload_n 2 133 rfl dX7_habit_132 rfl ?_
    exact Go.irS rfl dX7_habit_133 hf
  clear eK126
  have L6 : ∀ (fu : Nat) (l6_1 : Int32) (l6_2 : Int32) (l6_3 : Int32), F_X7_habit_L6 n S a0 K126 fu l6_1 l6_2 l6_3 = some (r, Sr) → GoM G l 2 (TmR G (some (.int r)) 97 Sr 0 0) mX7_habit 6 [(0, .ref a0), (1, .int l6_1), (2, .int l6_2), (3, .int l6_3)] [] S := by
    intro fu
    induction fu with
    | zero => intro l6_1 l6_2 l6_3 hf; rw [F_X7_habit_L6] at hf; cases hf
    | succ fu ih =>
      intro l6_1 l6_2 l6_3 hf
      rw [F_X7_habit_L6] at hf
      refine Go.iload_n 3 7 rfl dX7_habit_6 rfl ?_
      refine Go.aload_n 0 8 rfl dX7_habit_7 rfl ?_
      obtain ⟨k8, qk8, hk8, hf⟩ := f_rfd hf
      refine Go.getR 11 rfl dX7_habit_8 fl_X7_22 rfl (isT_lt ha0) (isT_sh ha0) qk8 ?_
      refine Go.iconst (0 : Int32) 12 rfl dX7_habit_11 ci_0 ?_
      obtain ⟨g12, hf⟩ := f_grd hf
      refine Go.iald 13 rfl dX7_habit_12 (isT_lt hk8) (isT_sh hk8) g12 ?_
      refine Go.icmp_ge 126 16 rfl dX7_habit_13 rfl (fun hc => ?_) (fun hc => ?_)
      · replace hf := f_if hf hc
        exact Go.sub [0, 1, 2] [(0, .ref a0), (1, .int l6_1), (2, .int l6_2)] rfl (J126 l6_1 l6_2 hf)
      · replace hf := f_el hf hc
        refine Go.iconst (0 : Int32) 17 rfl dX7_habit_16 ci_0 ?_
        refine Go.istore 19 [(4, .int (0 : Int32)), (0, .ref a0), (1, .int l6_1), (2, .int l6_2), (3, .int l6_3)] rfl dX7_habit_17 (by decide) rfl ?_
        refine Go.iconst (1 : Int32) 20 rfl dX7_habit_19 ci_1 ?_
        refine Go.istore 22 [(5, .int (1 : Int32)), (4, .int (0 : Int32)), (0, .ref a0), (1, .int l6_1), (2, .int l6_2), (3, .int l6_3)] rfl dX7_habit_20 (by decide) rfl ?_
        obtain ⟨K74, eK74, hf⟩ := f_jn hf
        have J74 : ∀ (x74_4 : Int32), K74 x74_4 = some (r, Sr) → GoM G l 2 (TmR G (some (.int r)) 97 Sr 0 0) mX7_habit 74 [(0, .ref a0), (1, .int l6_1), (2, .int l6_2), (3, .int l6_3), (4, .int x74_4)] [] S := by
          intro x74_4 hf
          rw [eK74] at hf
          refine Go.iload_n 1 75 rfl dX7_habit_74 rfl ?_
          refine Go.aload_n 0 76 rfl dX7_habit_75 rfl ?_
          refine Go.getR 79 rfl dX7_habit_76 fl_X7_22 rfl (isT_lt ha0) (isT_sh ha0) qk8 ?_
          refine Go.bipush (17 : Int32) 81 rfl dX7_habit_79 cb_17 ?_
          refine Go.iload_n 3 82 rfl dX7_habit_81 rfl ?_
          refine Go.iadd 83 rfl dX7_habit_82 ?_
          obtain ⟨g83, hf⟩ := f_grd hf
          refine Go.iald 84 rfl dX7_habit_83 (isT_lt hk8) (isT_sh hk8) g83 ?_
          refine Go.iload 4 86 rfl dX7_habit_84 rfl ?_
          obtain ⟨K94, eK94, hf⟩ := f_jn hf
          have J94 : ∀ (j94s1 : Int32), K94 j94s1 = some (r, Sr) → GoM G l 2 (TmR G (some (.int r)) 97 Sr 0 0) mX7_habit 94 [(0, .ref a0), (2, .int l6_2), (3, .int l6_3), (4, .int x74_4)] [.int j94s1, .int l6_1] S := by
            intro j94s1 hf
            rw [eK94] at hf
            refine Go.iadd 95 rfl dX7_habit_94 ?_
            obtain ⟨v95, ev95, hf⟩ := f_nm hf
            refine Go.topi v95 ev95 ?_
            refine Go.istore_n 96 [(1, .int v95), (0, .ref a0), (2, .int l6_2), (3, .int l6_3), (4, .int x74_4)] rfl dX7_habit_95 (by decide) rfl ?_
            refine Go.iload_n 2 97 rfl dX7_habit_96 rfl ?_
            refine Go.aload_n 1 98 rfl dX7_habit_97 rfl ?_
            refine Go.getR 101 rfl dX7_habit_98 fl_X7_22 rfl (isT_lt ha0) (isT_sh ha0) qk8 ?_
            refine Go.bipush (17 : Int32) 103 rfl dX7_habit_101 cb_17 ?_
            refine Go.iload_n 3 104 rfl dX7_habit_103 rfl ?_
            refine Go.iadd 105 rfl dX7_habit_104 ?_
            obtain ⟨g105, hf⟩ := f_grd hf
            refine Go.iald 106 rfl dX7_habit_105 (isT_lt hk8) (isT_sh hk8) g105 ?_
            refine Go.iload 4 108 rfl dX7_habit_106 rfl ?_
            obtain ⟨K118, eK118, hf⟩ := f_jn hf
            have J118 : ∀ (j118s1 : Int32), K118 j118s1 = some (r, Sr) → GoM G l 2 (TmR G (some (.int r)) 97 Sr 0 0) mX7_habit 118 [(0, .ref a0), (1, .int v95), (3, .int l6_3)] [.int j118s1, .int l6_2] S := by
              intro j118s1 hf
              rw [eK118] at hf
              refine Go.ior 119 rfl dX7_habit_118 ?_
              obtain ⟨v119, ev119, hf⟩ := f_nm hf
              refine Go.topi v119 ev119 ?_
              refine Go.istore_n 120 [(2, .int v119), (0, .ref a0), (1, .int v95), (3, .int l6_3)] rfl dX7_habit_119 (by decide) rfl ?_
              refine Go.inc 3 123 (1 : Int32) [(3, .int (l6_3 + (1 : Int32))), (2, .int v119), (0, .ref a0), (1, .int v95)] rfl dX7_habit_120 rfl ci_1 (by decide) rfl ?_
              refine Go.goto 6 dX7_habit_123 rfl ?_
              exact Go.sub [2, 3, 1, 0] [(0, .ref a0), (1, .int v95), (2, .int v119), (3, .int (l6_3 + (1 : Int32)))] rfl (ih v95 v119 (l6_3 + (1 : Int32)) hf)
            clear eK118
            refine Go.icmp_ne 115 111 rfl dX7_habit_108 rfl (fun hc => ?_) (fun hc => ?_)
            · replace hf := f_el hf hc
              refine Go.iconst (1 : Int32) 116 rfl dX7_habit_115 ci_1 ?_
              refine Go.iload_n 3 117 rfl dX7_habit_116 rfl ?_
              refine Go.ishl 118 rfl dX7_habit_117 ?_
              exact Go.sub [1, 0, 3] [(0, .ref a0), (1, .int v95), (3, .int l6_3)] rfl (J118 ((1 : Int32) <<< (l6_3 &&& 31)) hf)
            · replace hf := f_if hf hc
              refine Go.iconst (0 : Int32) 112 rfl dX7_habit_111 ci_0 ?_
              refine Go.goto 118 dX7_habit_112 rfl ?_
              exact Go.sub [1, 0, 3] [(0, .ref a0), (1, .int v95), (3, .int l6_3)] rfl (J118 (0 : Int32) hf)
          clear eK94
          refine Go.icmp_ne 93 89 rfl dX7_habit_86 rfl (fun hc => ?_) (fun hc => ?_)
          · replace hf := f_el hf hc
            refine Go.iconst (0 : Int32) 94 rfl dX7_habit_93 ci_0 ?_
            exact Go.sub [0, 2, 3, 4] [(0, .ref a0), (2, .int l6_2), (3, .int l6_3), (4, .int x74_4)] rfl (J94 (0 : Int32) hf)
          · replace hf := f_if hf hc
            refine Go.iconst (1 : Int32) 90 rfl dX7_habit_89 ci_1 ?_
            refine Go.goto 94 dX7_habit_90 rfl ?_
            exact Go.sub [0, 2, 3, 4] [(0, .ref a0), (2, .int l6_2), (3, .int l6_3), (4, .int x74_4)] rfl (J94 (1 : Int32) hf)
        clear eK74
        have L22 : ∀ (fu : Nat) (l22_4 : Int32) (l22_5 : Int32), F_X7_habit_L22 n S a0 l6_3 k8 K74 fu l22_4 l22_5 = some (r, Sr) → GoM G l 2 (TmR G (some (.int r)) 97 Sr 0 0) mX7_habit 22 [(0, .ref a0), (1, .int l6_1), (2, .int l6_2), (3, .int l6_3), (4, .int l22_4), (5, .int l22_5)] [] S := by
          intro fu
          induction fu with
          | zero => intro l22_4 l22_5 hf; rw [F_X7_habit_L22] at hf; cases hf
          | succ fu ih =>
            intro l22_4 l22_5 hf
            rw [F_X7_habit_L22] at hf
            refine Go.iload 5 24 rfl dX7_habit_22 rfl ?_
            refine Go.iconst (4 : Int32) 25 rfl dX7_habit_24 ci_4 ?_
            refine Go.icmp_ge 74 28 rfl dX7_habit_25 rfl (fun hc => ?_) (fun hc => ?_)
            · replace hf := f_if hf hc
              exact Go.sub [0, 1, 2, 3, 4] [(0, .ref a0), (1, .int l6_1), (2, .int l6_2), (3, .int l6_3), (4, .int l22_4)] rfl (J74 l22_4 hf)
            · replace hf := f_el hf hc
              refine Go.aload_n 0 29 rfl dX7_habit_28 rfl ?_
              refine Go.aload_n 0 30 rfl dX7_habit_29 rfl ?_
              refine Go.getR 33 rfl dX7_habit_30 fl_X7_22 rfl (isT_lt ha0) (isT_sh ha0) qk8 ?_
              refine Go.iconst (3 : Int32) 34 rfl dX7_habit_33 ci_3 ?_
              refine Go.iload_n 3 35 rfl dX7_habit_34 rfl ?_
              refine Go.iadd 36 rfl dX7_habit_35 ?_
              obtain ⟨g36, hf⟩ := f_grd hf
              refine Go.iald 37 rfl dX7_habit_36 (isT_lt hk8) (isT_sh hk8) g36 ?_
              refine Go.iload 5 39 rfl dX7_habit_37 rfl ?_
              obtain ⟨r39, er39, hf⟩ := f_bnd hf
              refine Go.cV 42 [.int (S.1 k8 ((3 : Int32) + l6_3).toNatClampNeg), .int l22_5] [] (C_X7_lying G l n S a0 (S.1 k8 ((3 : Int32) + l6_3).toNatClampNeg) l22_5 r39 ha0 er39) rfl dX7_habit_39 cv_X7_210 ha0 (by decide) (by decide) rfl (Nat.le_of_ble_eq_true rfl) ?_
              refine Go.aload_n 0 43 rfl dX7_habit_42 rfl ?_
              refine Go.aload_n 0 44 rfl dX7_habit_43 rfl ?_
              refine Go.getR 47 rfl dX7_habit_44 fl_X7_22 rfl (isT_lt ha0) (isT_sh ha0) qk8 ?_
              refine Go.iconst (3 : Int32) 48 rfl dX7_habit_47 ci_3 ?_
              refine Go.iload_n 3 49 rfl dX7_habit_48 rfl ?_
              refine Go.iadd 50 rfl dX7_habit_49 ?_
              obtain ⟨g50, hf⟩ := f_grd hf
              refine Go.iald 51 rfl dX7_habit_50 (isT_lt hk8) (isT_sh hk8) g50 ?_
              refine Go.iload 4 53 rfl dX7_habit_51 rfl ?_
              obtain ⟨r53, er53, hf⟩ := f_bnd hf
              refine Go.cV 56 [.int (S.1 k8 ((3 : Int32) + l6_3).toNatClampNeg), .int l22_4] [.int r39] (C_X7_lying G l n S a0 (S.1 k8 ((3 : Int32) + l6_3).toNatClampNeg) l22_4 r53 ha0 er53) rfl dX7_habit_53 cv_X7_210 ha0 (by decide) (by decide) rfl (Nat.le_of_ble_eq_true rfl) ?_
              obtain ⟨K66, eK66, hf⟩ := f_jn hf
              have J66 : ∀ (j66s0 : Int32), K66 j66s0 = some (r, Sr) → GoM G l 2 (TmR G (some (.int r)) 97 Sr 0 0) mX7_habit 66 [(0, .ref a0), (1, .int l6_1), (2, .int l6_2), (3, .int l6_3), (5, .int l22_5)] [.int j66s0] S := by
                intro j66s0 hf
                rw [eK66] at hf
                refine Go.istore 68 [(4, .int j66s0), (0, .ref a0), (1, .int l6_1), (2, .int l6_2), (3, .int l6_3), (5, .int l22_5)] rfl dX7_habit_66 (by decide) rfl ?_
                refine Go.inc 5 71 (1 : Int32) [(5, .int (l22_5 + (1 : Int32))), (4, .int j66s0), (0, .ref a0), (1, .int l6_1), (2, .int l6_2), (3, .int l6_3)] rfl dX7_habit_68 rfl ci_1 (by decide) rfl ?_
                refine Go.goto 22 dX7_habit_71 rfl ?_
                exact Go.sub [2, 3, 4, 5, 1, 0] [(0, .ref a0), (1, .int l6_1), (2, .int l6_2), (3, .int l6_3), (4, .int j66s0), (5, .int (l22_5 + (1 : Int32)))] rfl (ih j66s0 (l22_5 + (1 : Int32)) hf)
              clear eK66
              refine Go.icmp_le 64 59 rfl dX7_habit_56 rfl (fun hc => ?_) (fun hc => ?_)
              · replace hf := f_if hf hc
                refine Go.iload 4 66 rfl dX7_habit_64 rfl ?_
                exact Go.sub [0, 1, 2, 3, 5] [(0, .ref a0), (1, .int l6_1), (2, .int l6_2), (3, .int l6_3), (5, .int l22_5)] rfl (J66 l22_4 hf)
              · replace hf := f_el hf hc
                refine Go.iload 5 61 rfl dX7_habit_59 rfl ?_
                refine Go.goto 66 dX7_habit_61 rfl ?_
                exact Go.sub [0, 1, 2, 3, 5] [(0, .ref a0), (1, .int l6_1), (2, .int l6_2), (3, .int l6_3), (5, .int l22_5)] rfl (J66 l22_5 hf)
        exact Go.sub [2, 3, 4, 5, 1, 0] [(0, .ref a0), (1, .int l6_1), (2, .int l6_2), (3, .int l6_3), (4, .int (0 : Int32)), (5, .int (1 : Int32))] rfl (L22 n (0 : Int32) (1 : Int32) hf)
  exact Go.sub [3, 2, 1, 0] [(0, .ref a0), (1, .int (0 : Int32)), (2, .int (0 : Int32)), (3, .int (0 : Int32))] rfl (L6 n (0 : Int32) (0 : Int32) (0 : Int32) hf)
theorem dX7_order_0 : decode cX7_order 0 = .ok (.iconst 0, 1) := by decide +kernel
theorem dX7_order_1 : decode cX7_order 1 = .ok (.istore_n 1, 1) := by decide +kernel
theorem dX7_order_2 : decode cX7_order 2 = .ok (.iconst 0, 1) := by decide +kernel
theorem dX7_order_3 : decode cX7_order 3 = .ok (.istore_n 2, 1) := by decide +kernel
theorem dX7_order_4 : decode cX7_order 4 = .ok (.iload_n 2, 1) := by decide +kernel
theorem dX7_order_5 : decode cX7_order 5 = .ok (.aload_n 0, 1) := by decide +kernel
theorem dX7_order_6 : decode cX7_order 6 = .ok (.getfield 22, 3) := by decide +kernel
theorem dX7_order_9 : decode cX7_order 9 = .ok (.iconst 0, 1) := by decide +kernel
theorem dX7_order_10 : decode cX7_order 10 = .ok (.iaload, 1) := by decide +kernel
theorem dX7_order_11 : decode cX7_order 11 = .ok (.if_icmp .ge 22, 3) := by decide +kernel
theorem dX7_order_14 : decode cX7_order 14 = .ok (.iload_n 1, 1) := by decide +kernel
theorem dX7_order_15 : decode cX7_order 15 = .ok (.iconst 1, 1) := by decide +kernel
theorem dX7_order_16 : decode cX7_order 16 = .ok (.aload_n 0, 1) := by decide +kernel
theorem dX7_order_17 : decode cX7_order 17 = .ok (.getfield 22, 3) := by decide +kernel
theorem dX7_order_20 : decode cX7_order 20 = .ok (.iconst 3, 1) := by decide +kernel
theorem dX7_order_21 : decode cX7_order 21 = .ok (.iload_n 2, 1) := by decide +kernel
theorem dX7_order_22 : decode cX7_order 22 = .ok (.iadd, 1) := by decide +kernel
theorem dX7_order_23 : decode cX7_order 23 = .ok (.iaload, 1) := by decide +kernel
theorem dX7_order_24 : decode cX7_order 24 = .ok (.ishl, 1) := by decide +kernel
theorem dX7_order_25 : decode cX7_order 25 = .ok (.ior, 1) := by decide +kernel
theorem dX7_order_26 : decode cX7_order 26 = .ok (.istore_n 1, 1) := by decide +kernel
theorem dX7_order_27 : decode cX7_order 27 = .ok (.iinc 2 1, 3) := by decide +kernel
theorem dX7_order_30 : decode cX7_order 30 = .ok (.goto (-26), 3) := by decide +kernel
theorem dX7_order_33 : decode cX7_order 33 = .ok (.bipush (-9), 2) := by decide +kernel
theorem dX7_order_35 : decode cX7_order 35 = .ok (.istore_n 2, 1) := by decide +kernel
theorem dX7_order_36 : decode cX7_order 36 = .ok (.iconst 0, 1) := by decide +kernel
theorem dX7_order_37 : decode cX7_order 37 = .ok (.istore_n 3, 1) := by decide +kernel
theorem dX7_order_38 : decode cX7_order 38 = .ok (.iload_n 3, 1) := by decide +kernel
theorem dX7_order_39 : decode cX7_order 39 = .ok (.sipush 2401, 3) := by decide +kernel
theorem dX7_order_42 : decode cX7_order 42 = .ok (.if_icmp .ge 108, 3) := by decide +kernel
theorem dX7_order_45 : decode cX7_order 45 = .ok (.iload_n 3, 1) := by decide +kernel
theorem dX7_order_46 : decode cX7_order 46 = .ok (.istore 4, 2) := by decide +kernel
theorem dX7_order_48 : decode cX7_order 48 = .ok (.iconst 0, 1) := by decide +kernel
theorem dX7_order_49 : decode cX7_order 49 = .ok (.istore 5, 2) := by decide +kernel
theorem dX7_order_51 : decode cX7_order 51 = .ok (.iconst 0, 1) := by decide +kernel
theorem dX7_order_52 : decode cX7_order 52 = .ok (.istore 6, 2) := by decide +kernel
theorem dX7_order_54 : decode cX7_order 54 = .ok (.iconst 0, 1) := by decide +kernel
theorem dX7_order_55 : decode cX7_order 55 = .ok (.istore 7, 2) := by decide +kernel
theorem dX7_order_57 : decode cX7_order 57 = .ok (.iload 7, 2) := by decide +kernel
theorem dX7_order_59 : decode cX7_order 59 = .ok (.iconst 4, 1) := by decide +kernel
theorem dX7_order_60 : decode cX7_order 60 = .ok (.if_icmp .ge 45, 3) := by decide +kernel
theorem dX7_order_63 : decode cX7_order 63 = .ok (.iload 4, 2) := by decide +kernel
theorem dX7_order_65 : decode cX7_order 65 = .ok (.bipush 7, 2) := by decide +kernel
theorem dX7_order_67 : decode cX7_order 67 = .ok (.irem, 1) := by decide +kernel
theorem dX7_order_68 : decode cX7_order 68 = .ok (.istore 8, 2) := by decide +kernel
theorem dX7_order_70 : decode cX7_order 70 = .ok (.iload 4, 2) := by decide +kernel
theorem dX7_order_72 : decode cX7_order 72 = .ok (.bipush 7, 2) := by decide +kernel
theorem dX7_order_74 : decode cX7_order 74 = .ok (.idiv, 1) := by decide +kernel
theorem dX7_order_75 : decode cX7_order 75 = .ok (.istore 4, 2) := by decide +kernel
theorem dX7_order_77 : decode cX7_order 77 = .ok (.iload 5, 2) := by decide +kernel
theorem dX7_order_79 : decode cX7_order 79 = .ok (.iconst 1, 1) := by decide +kernel
theorem dX7_order_80 : decode cX7_order 80 = .ok (.iload 8, 2) := by decide +kernel
theorem dX7_order_82 : decode cX7_order 82 = .ok (.ishl, 1) := by decide +kernel
theorem dX7_order_83 : decode cX7_order 83 = .ok (.ior, 1) := by decide +kernel
theorem dX7_order_84 : decode cX7_order 84 = .ok (.istore 5, 2) := by decide +kernel
theorem dX7_order_86 : decode cX7_order 86 = .ok (.iload 6, 2) := by decide +kernel
theorem dX7_order_88 : decode cX7_order 88 = .ok (.aload_n 0, 1) := by decide +kernel
theorem dX7_order_89 : decode cX7_order 89 = .ok (.iload 8, 2) := by decide +kernel
theorem dX7_order_91 : decode cX7_order 91 = .ok (.iload 7, 2) := by decide +kernel
theorem dX7_order_93 : decode cX7_order 93 = .ok (.invokevirtual 210, 3) := by decide +kernel
theorem dX7_order_96 : decode cX7_order 96 = .ok (.iadd, 1) := by decide +kernel
theorem dX7_order_97 : decode cX7_order 97 = .ok (.istore 6, 2) := by decide +kernel
theorem dX7_order_99 : decode cX7_order 99 = .ok (.iinc 7 1, 3) := by decide +kernel
theorem dX7_order_102 : decode cX7_order 102 = .ok (.goto (-45), 3) := by decide +kernel
theorem dX7_order_105 : decode cX7_order 105 = .ok (.aload_n 0, 1) := by decide +kernel
theorem dX7_order_106 : decode cX7_order 106 = .ok (.getfield 22, 3) := by decide +kernel
theorem dX7_order_109 : decode cX7_order 109 = .ok (.iconst 0, 1) := by decide +kernel
theorem dX7_order_110 : decode cX7_order 110 = .ok (.iaload, 1) := by decide +kernel
theorem dX7_order_111 : decode cX7_order 111 = .ok (.iload 6, 2) := by decide +kernel
theorem dX7_order_113 : decode cX7_order 113 = .ok (.isub, 1) := by decide +kernel
theorem dX7_order_114 : decode cX7_order 114 = .ok (.istore 7, 2) := by decide +kernel
theorem dX7_order_116 : decode cX7_order 116 = .ok (.iload_n 1, 1) := by decide +kernel
theorem dX7_order_117 : decode cX7_order 117 = .ok (.iload 5, 2) := by decide +kernel
theorem dX7_order_119 : decode cX7_order 119 = .ok (.iconst (-1), 1) := by decide +kernel
theorem dX7_order_120 : decode cX7_order 120 = .ok (.ixor, 1) := by decide +kernel
theorem dX7_order_121 : decode cX7_order 121 = .ok (.iand, 1) := by decide +kernel
theorem dX7_order_122 : decode cX7_order 122 = .ok (.ifCond .ne 20, 3) := by decide +kernel
theorem dX7_order_125 : decode cX7_order 125 = .ok (.iload_n 2, 1) := by decide +kernel
theorem dX7_order_126 : decode cX7_order 126 = .ok (.bipush (-9), 2) := by decide +kernel
theorem dX7_order_128 : decode cX7_order 128 = .ok (.if_icmp .eq 9, 3) := by decide +kernel
theorem dX7_order_131 : decode cX7_order 131 = .ok (.iload 7, 2) := by decide +kernel
theorem dX7_order_133 : decode cX7_order 133 = .ok (.iload_n 2, 1) := by decide +kernel
theorem dX7_order_134 : decode cX7_order 134 = .ok (.if_icmp .ge 8, 3) := by decide +kernel
theorem dX7_order_137 : decode cX7_order 137 = .ok (.iload 7, 2) := by decide +kernel
theorem dX7_order_139 : decode cX7_order 139 = .ok (.goto 4, 3) := by decide +kernel
theorem dX7_order_142 : decode cX7_order 142 = .ok (.iload_n 2, 1) := by decide +kernel
theorem dX7_order_143 : decode cX7_order 143 = .ok (.istore_n 2, 1) := by decide +kernel
theorem dX7_order_144 : decode cX7_order 144 = .ok (.iinc 3 1, 3) := by decide +kernel
theorem dX7_order_147 : decode cX7_order 147 = .ok (.goto (-109), 3) := by decide +kernel
theorem dX7_order_150 : decode cX7_order 150 = .ok (.iload_n 2, 1) := by decide +kernel
theorem dX7_order_151 : decode cX7_order 151 = .ok (.ireturn, 1) := by decide +kernel
def F_X7_order_L57 (n : Nat) (S : aSt) (a0 : Nat) (K105 : Int32 → Int32 → Option Int32) : Nat → Int32 → Int32 → Int32 → Int32 → Option Int32
  | 0, _, _, _, _ => none
  | fu + 1, l57_4, l57_5, l57_6, l57_7 =>
    if (4 : Int32) ≤ l57_7 then (K105 l57_5 l57_6) else
    nm (l57_4 - l57_4 / (7 : Int32) * (7 : Int32)) fun v68 =>
    nm (l57_4 / (7 : Int32)) fun v75 =>
    nm (l57_5 ||| ((1 : Int32) <<< (v68 &&& 31))) fun v84 =>
    (F_X7_lying n S a0 v68 l57_7).bind fun r93 =>
    nm (l57_6 + r93) fun v97 =>
    F_X7_order_L57 n S a0 K105 fu v75 v84 v97 (l57_7 + (1 : Int32))
def F_X7_order_L38 (n : Nat) (S : aSt) (a0 : Nat) (x33_1 : Int32) (K150 : Int32 → Option Int32) : Nat → Int32 → Int32 → Option Int32
  | 0, _, _ => none
  | fu + 1, l38_2, l38_3 =>
    if (2401 : Int32) ≤ l38_3 then (K150 l38_2) else
    jn (fun (x105_5 : Int32) (x105_6 : Int32) => (rfd (S.2.2 a0 4) 7 fun k106 =>
    grd (inb (0 : Int32) (SH k106).2) <|
    nm ((S.1 k106 (0 : Int32).toNatClampNeg) - x105_6) fun v114 =>
    jn (fun (j143s0 : Int32) => (F_X7_order_L38 n S a0 x33_1 K150 fu j143s0 (l38_3 + (1 : Int32)) : Option Int32)) fun K143 =>
    jn ((K143 l38_2 : Option Int32)) fun K142 =>
    if (x33_1 &&& (x105_5 ^^^ (-1 : Int32))) = 0 then (jn ((K143 v114 : Option Int32)) fun K137 =>
    if l38_2 = (-9 : Int32) then (K137) else
    if l38_2 ≤ v114 then (K142) else
    K137) else
    K142 : Option Int32)) fun K105 =>
    F_X7_order_L57 n S a0 K105 n l38_3 (0 : Int32) (0 : Int32) (0 : Int32)
def F_X7_order_L4 (S : aSt) (a0 : Nat) (K33 : Int32 → Option Int32) : Nat → Int32 → Int32 → Option Int32
  | 0, _, _ => none
  | fu + 1, l4_1, l4_2 =>
    rfd (S.2.2 a0 4) 7 fun k6 =>
    grd (inb (0 : Int32) (SH k6).2) <|
    if (S.1 k6 (0 : Int32).toNatClampNeg) ≤ l4_2 then (K33 l4_1) else
    grd (inb ((3 : Int32) + l4_2) (SH k6).2) <|
    nm (l4_1 ||| ((1 : Int32) <<< ((S.1 k6 ((3 : Int32) + l4_2).toNatClampNeg) &&& 31))) fun v26 =>
    F_X7_order_L4 S a0 K33 fu v26 (l4_2 + (1 : Int32))
def F_X7_order (n : Nat) (S : aSt) (a0 : Nat) : Option Int32 :=
jn (fun (x33_1 : Int32) => (jn (fun (x150_2 : Int32) => (some x150_2 : Option Int32)) fun K150 =>
F_X7_order_L38 n S a0 x33_1 K150 n (-9 : Int32) (0 : Int32) : Option Int32)) fun K33 =>
F_X7_order_L4 S a0 K33 n (0 : Int32) (0 : Int32)
set_option maxHeartbeats 4000000 in
set_option maxRecDepth 100000 in
theorem C_X7_order (G : aG) (l : Launch) (n : Nat) (S : aSt) (a0 : Nat) (r : Int32) (ha0 : isT a0 6 = true) (hf : F_X7_order n S a0 = some r) : Ctr G l yX7_order mX7_order (rmM 2) 97 97 S [.ref a0] (some (.int r)) S := by
  refine Ctr.of (by decide) rfl rfl (Nat.le_of_ble_eq_true rfl) [(0, .ref a0)] rfl ?_
  unfold F_X7_order at hf
  refine Go.iconst (0 : Int32) 1 rfl dX7_order_0 ci_0 ?_
  refine Go.istore_n 2 [(1, .int (0 : Int32)), (0, .ref a0)] rfl dX7_order_1 (by decide) rfl ?_
  refine Go.iconst (0 : Int32) 3 rfl dX7_order_2 ci_0 ?_
  refine Go.istore_n 4 [(2, .int (0 : Int32)), (1, .int (0 : Int32)), (0, .ref a0)] rfl dX7_order_3 (by decide) rfl ?_
  obtain ⟨K33, eK33, hf⟩ := f_jn hf
  have J33 : ∀ (x33_1 : Int32), K33 x33_1 = some r → GoM G l 2 (TmR G (some (.int r)) 97 S 0 0) mX7_order 33 [(0, .ref a0), (1, .int x33_1)] [] S := by
    intro x33_1 hf
    rw [eK33] at hf
    refine Go.bipush (-9 : Int32) 35 rfl dX7_order_33 cb_m9 ?_
    refine Go.istore_n 36 [(2, .int (-9 : Int32)), (0, .ref a0), (1, .int x33_1)] rfl dX7_order_35 (by decide) rfl ?_
    refine Go.iconst (0 : Int32) 37 rfl dX7_order_36 ci_0 ?_
    refine Go.istore_n 38 [(3, .int (0 : Int32)), (2, .int (-9 : Int32)), (0, .ref a0), (1, .int x33_1)] rfl dX7_order_37 (by decide) rfl ?_
    obtain ⟨K150, eK150, hf⟩ := f_jn hf
    have J150 : ∀ (x150_2 : Int32), K150 x150_2 = some r → GoM G l 2 (TmR G (some (.int r)) 97 S 0 0) mX7_order 150 [(2, .int x150_2)] [] S := by
      intro x150_2 hf
      rw [eK150] at hf
      refine Go.iload_n 0 151 rfl dX7_order_150 rfl ?_
      exact Go.ir rfl dX7_order_151 hf
    clear eK150
    have L38 : ∀ (fu : Nat) (l38_2 : Int32) (l38_3 : Int32), F_X7_order_L38 n S a0 x33_1 K150 fu l38_2 l38_3 = some r → GoM G l 2 (TmR G (some (.int r)) 97 S 0 0) mX7_order 38 [(0, .ref a0), (1, .int x33_1), (2, .int l38_2), (3, .int l38_3)] [] S := by
      intro fu
      induction fu with
      | zero => intro l38_2 l38_3 hf; rw [F_X7_order_L38] at hf; cases hf
      | succ fu ih =>
        intro l38_2 l38_3 hf
        rw [F_X7_order_L38] at hf
        refine Go.iload_n 3 39 rfl dX7_order_38 rfl ?_
        refine Go.sipush (2401 : Int32) 42 rfl dX7_order_39 cs_2401 ?_
        refine Go.icmp_ge 150 45 rfl dX7_order_42 rfl (fun hc => ?_) (fun hc => ?_)
        · replace hf := f_if hf hc
          exact Go.sub [2] [(2, .int l38_2)] rfl (J150 l38_2 hf)
        · replace hf := f_el hf hc
          refine Go.iload_n 3 46 rfl dX7_order_45 rfl ?_
          refine Go.istore 48 [(4, .int l38_3), (0, .ref a0), (1, .int x33_1), (2, .int l38_2), (3, .int l38_3)] rfl dX7_order_46 (by decide) rfl ?_
          refine Go.iconst (0 : Int32) 49 rfl dX7_order_48 ci_0 ?_
          refine Go.istore 51 [(5, .int (0 : Int32)), (4, .int l38_3), (0, .ref a0), (1, .int x33_1), (2, .int l38_2), (3, .int l38_3)] rfl dX7_order_49 (by decide) rfl ?_
          refine Go.iconst (0 : Int32) 52 rfl dX7_order_51 ci_0 ?_
          refine Go.istore 54 [(6, .int (0 : Int32)), (5, .int (0 : Int32)), (4, .int l38_3), (0, .ref a0), (1, .int x33_1), (2, .int l38_2), (3, .int l38_3)] rfl dX7_order_52 (by decide) rfl ?_
          refine Go.iconst (0 : Int32) 55 rfl dX7_order_54 ci_0 ?_
          refine Go.istore 57 [(7, .int (0 : Int32)), (6, .int (0 : Int32)), (5, .int (0 : Int32)), (4, .int l38_3), (0, .ref a0), (1, .int x33_1), (2, .int l38_2), (3, .int l38_3)] rfl dX7_order_55 (by decide) rfl ?_
          obtain ⟨K105, eK105, hf⟩ := f_jn hf
          have J105 : ∀ (x105_5 : Int32) (x105_6 : Int32), K105 x105_5 x105_6 = some r → GoM G l 2 (TmR G (some (.int r)) 97 S 0 0) mX7_order 105 [(0, .ref a0), (1, .int x33_1), (2, .int l38_2), (3, .int l38_3), (5, .int x105_5), (6, .int x105_6)] [] S := by
            intro x105_5 x105_6 hf
            rw [eK105] at hf
            refine Go.aload_n 0 106 rfl dX7_order_105 rfl ?_
            obtain ⟨k106, qk106, hk106, hf⟩ := f_rfd hf
            refine Go.getR 109 rfl dX7_order_106 fl_X7_22 rfl (isT_lt ha0) (isT_sh ha0) qk106 ?_
            refine Go.iconst (0 : Int32) 110 rfl dX7_order_109 ci_0 ?_
            obtain ⟨g110, hf⟩ := f_grd hf
            refine Go.iald 111 rfl dX7_order_110 (isT_lt hk106) (isT_sh hk106) g110 ?_
            refine Go.iload 5 113 rfl dX7_order_111 rfl ?_
            refine Go.isub 114 rfl dX7_order_113 ?_
            obtain ⟨v114, ev114, hf⟩ := f_nm hf
            refine Go.topi v114 ev114 ?_
            refine Go.istore 116 [(7, .int v114), (0, .ref a0), (1, .int x33_1), (2, .int l38_2), (3, .int l38_3), (5, .int x105_5), (6, .int x105_6)] rfl dX7_order_114 (by decide) rfl ?_
            refine Go.iload_n 2 117 rfl dX7_order_116 rfl ?_
            refine Go.iload 5 119 rfl dX7_order_117 rfl ?_
            refine Go.iconst (-1 : Int32) 120 rfl dX7_order_119 ci_m1 ?_
            refine Go.ixor 121 rfl dX7_order_120 ?_
            refine Go.iand 122 rfl dX7_order_121 ?_
            obtain ⟨K143, eK143, hf⟩ := f_jn hf
            have J143 : ∀ (j143s0 : Int32), K143 j143s0 = some r → GoM G l 2 (TmR G (some (.int r)) 97 S 0 0) mX7_order 143 [(0, .ref a0), (1, .int x33_1), (3, .int l38_3)] [.int j143s0] S := by
              intro j143s0 hf
              rw [eK143] at hf
              refine Go.istore_n 144 [(2, .int j143s0), (0, .ref a0), (1, .int x33_1), (3, .int l38_3)] rfl dX7_order_143 (by decide) rfl ?_
              refine Go.inc 3 147 (1 : Int32) [(3, .int (l38_3 + (1 : Int32))), (2, .int j143s0), (0, .ref a0), (1, .int x33_1)] rfl dX7_order_144 rfl ci_1 (by decide) rfl ?_
              refine Go.goto 38 dX7_order_147 rfl ?_
              exact Go.sub [2, 3, 1, 0] [(0, .ref a0), (1, .int x33_1), (2, .int j143s0), (3, .int (l38_3 + (1 : Int32)))] rfl (ih j143s0 (l38_3 + (1 : Int32)) hf)
            clear eK143
            obtain ⟨K142, eK142, hf⟩ := f_jn hf
            have J142 : K142 = some r → GoM G l 2 (TmR G (some (.int r)) 97 S 0 0) mX7_order 142 [(0, .ref a0), (1, .int x33_1), (2, .int l38_2), (3, .int l38_3)] [] S := by
              intro hf
              rw [eK142] at hf
              refine Go.iload_n 2 143 rfl dX7_order_142 rfl ?_
              exact Go.sub [0, 1, 3] [(0, .ref a0), (1, .int x33_1), (3, .int l38_3)] rfl (J143 l38_2 hf)
            clear eK142
            refine Go.if_ne 142 125 rfl dX7_order_122 rfl (fun hc => ?_) (fun hc => ?_)
            · replace hf := f_el hf hc
              exact Go.sub [1, 2, 3, 4] [(0, .ref a0), (1, .int x33_1), (2, .int l38_2), (3, .int l38_3)] rfl (J142 hf)
            · replace hf := f_if hf hc
              refine Go.iload_n 3 126 rfl dX7_order_125 rfl ?_
              refine Go.bipush (-9 : Int32) 128 rfl dX7_order_126 cb_m9 ?_
              obtain ⟨K137, eK137, hf⟩ := f_jn hf
              have J137 : K137 = some r → GoM G l 2 (TmR G (some (.int r)) 97 S 0 0) mX7_order 137 [(0, .ref a0), (1, .int x33_1), (3, .int l38_3), (7, .int v114)] [] S := by
                intro hf
                rw [eK137] at hf
                refine Go.iload 3 139 rfl dX7_order_137 rfl ?_
                refine Go.goto 143 dX7_order_139 rfl ?_
                exact Go.sub [0, 1, 2] [(0, .ref a0), (1, .int x33_1), (3, .int l38_3)] rfl (J143 v114 hf)
              clear eK137
              refine Go.icmp_eq 137 131 rfl dX7_order_128 rfl (fun hc => ?_) (fun hc => ?_)
              · replace hf := f_if hf hc
                exact Go.sub [1, 2, 4, 0] [(0, .ref a0), (1, .int x33_1), (3, .int l38_3), (7, .int v114)] rfl (J137 hf)
              · replace hf := f_el hf hc
                refine Go.iload 0 133 rfl dX7_order_131 rfl ?_
                refine Go.iload_n 3 134 rfl dX7_order_133 rfl ?_
                refine Go.icmp_ge 142 137 rfl dX7_order_134 rfl (fun hc => ?_) (fun hc => ?_)
                · replace hf := f_if hf hc
                  exact Go.sub [1, 2, 3, 4] [(0, .ref a0), (1, .int x33_1), (2, .int l38_2), (3, .int l38_3)] rfl (J142 hf)
                · replace hf := f_el hf hc
                  exact Go.sub [1, 2, 4, 0] [(0, .ref a0), (1, .int x33_1), (3, .int l38_3), (7, .int v114)] rfl (J137 hf)
          clear eK105
          have L57 : ∀ (fu : Nat) (l57_4 : Int32) (l57_5 : Int32) (l57_6 : Int32) (l57_7 : Int32), F_X7_order_L57 n S a0 K105 fu l57_4 l57_5 l57_6 l57_7 = some r → GoM G l 2 (TmR G (some (.int r)) 97 S 0 0) mX7_order 57 [(0, .ref a0), (1, .int x33_1), (2, .int l38_2), (3, .int l38_3), (4, .int l57_4), (5, .int l57_5), (6, .int l57_6), (7, .int l57_7)] [] S := by
            intro fu
            induction fu with
            | zero => intro l57_4 l57_5 l57_6 l57_7 hf; rw [F_X7_order_L57] at hf; cases hf
            | succ fu ih =>
              intro l57_4 l57_5 l57_6 l57_7 hf
              rw [F_X7_order_L57] at hf
              refine Go.iload 7 59 rfl dX7_order_57 rfl ?_
              refine Go.iconst (4 : Int32) 60 rfl dX7_order_59 ci_4 ?_
              refine Go.icmp_ge 105 63 rfl dX7_order_60 rfl (fun hc => ?_) (fun hc => ?_)
              · replace hf := f_if hf hc
                exact Go.sub [0, 1, 2, 3, 5, 6] [(0, .ref a0), (1, .int x33_1), (2, .int l38_2), (3, .int l38_3), (5, .int l57_5), (6, .int l57_6)] rfl (J105 l57_5 l57_6 hf)
              · replace hf := f_el hf hc
                refine Go.iload 4 65 rfl dX7_order_63 rfl ?_
                refine Go.bipush (7 : Int32) 67 rfl dX7_order_65 cb_7 ?_
                refine Go.irem 68 rfl dX7_order_67 (by decide) ?_
                obtain ⟨v68, ev68, hf⟩ := f_nm hf
                refine Go.topi v68 ev68 ?_
                refine Go.istore 70 [(8, .int v68), (0, .ref a0), (1, .int x33_1), (2, .int l38_2), (3, .int l38_3), (4, .int l57_4), (5, .int l57_5), (6, .int l57_6), (7, .int l57_7)] rfl dX7_order_68 (by decide) rfl ?_
                refine Go.iload 5 72 rfl dX7_order_70 rfl ?_
                refine Go.bipush (7 : Int32) 74 rfl dX7_order_72 cb_7 ?_
                refine Go.idiv 75 rfl dX7_order_74 (by decide) ?_
                obtain ⟨v75, ev75, hf⟩ := f_nm hf
                refine Go.topi v75 ev75 ?_
                refine Go.istore 77 [(4, .int v75), (8, .int v68), (0, .ref a0), (1, .int x33_1), (2, .int l38_2), (3, .int l38_3), (5, .int l57_5), (6, .int l57_6), (7, .int l57_7)] rfl dX7_order_75 (by decide) rfl ?_
                refine Go.iload 6 79 rfl dX7_order_77 rfl ?_
                refine Go.iconst (1 : Int32) 80 rfl dX7_order_79 ci_1 ?_
                refine Go.iload 1 82 rfl dX7_order_80 rfl ?_
                refine Go.ishl 83 rfl dX7_order_82 ?_
                refine Go.ior 84 rfl dX7_order_83 ?_
                obtain ⟨v84, ev84, hf⟩ := f_nm hf
                refine Go.topi v84 ev84 ?_
                refine Go.istore 86 [(5, .int v84), (4, .int v75), (8, .int v68), (0, .ref a0), (1, .int x33_1), (2, .int l38_2), (3, .int l38_3), (6, .int l57_6), (7, .int l57_7)] rfl dX7_order_84 (by decide) rfl ?_
                refine Go.iload 7 88 rfl dX7_order_86 rfl ?_
                refine Go.aload_n 3 89 rfl dX7_order_88 rfl ?_
                refine Go.iload 2 91 rfl dX7_order_89 rfl ?_
                refine Go.iload 8 93 rfl dX7_order_91 rfl ?_
                obtain ⟨r93, er93, hf⟩ := f_bnd hf
                refine Go.cV 96 [.int v68, .int l57_7] [.int l57_6] (C_X7_lying G l n S a0 v68 l57_7 r93 ha0 er93) rfl dX7_order_93 cv_X7_210 ha0 (by decide) (by decide) rfl (Nat.le_of_ble_eq_true rfl) ?_
                refine Go.iadd 97 rfl dX7_order_96 ?_
                obtain ⟨v97, ev97, hf⟩ := f_nm hf
                refine Go.topi v97 ev97 ?_
                refine Go.istore 99 [(6, .int v97), (5, .int v84), (4, .int v75), (8, .int v68), (0, .ref a0), (1, .int x33_1), (2, .int l38_2), (3, .int l38_3), (7, .int l57_7)] rfl dX7_order_97 (by decide) rfl ?_
                refine Go.inc 8 102 (1 : Int32) [(7, .int (l57_7 + (1 : Int32))), (6, .int v97), (5, .int v84), (4, .int v75), (8, .int v68), (0, .ref a0), (1, .int x33_1), (2, .int l38_2), (3, .int l38_3)] rfl dX7_order_99 rfl ci_1 (by decide) rfl ?_
                refine Go.goto 57 dX7_order_102 rfl ?_
                exact Go.sub [5, 6, 7, 8, 3, 2, 1, 0] [(0, .ref a0), (1, .int x33_1), (2, .int l38_2), (3, .int l38_3), (4, .int v75), (5, .int v84), (6, .int v97), (7, .int (l57_7 + (1 : Int32)))] rfl (ih v75 v84 v97 (l57_7 + (1 : Int32)) hf)
          exact Go.sub [4, 5, 6, 7, 3, 2, 1, 0] [(0, .ref a0), (1, .int x33_1), (2, .int l38_2), (3, .int l38_3), (4, .int l38_3), (5, .int (0 : Int32)), (6, .int (0 : Int32)), (7, .int (0 : Int32))] rfl (L57 n l38_3 (0 : Int32) (0 : Int32) (0 : Int32) hf)
    exact Go.sub [2, 3, 1, 0] [(0, .ref a0), (1, .int x33_1), (2, .int (-9 : Int32)), (3, .int (0 : Int32))] rfl (L38 n (-9 : Int32) (0 : Int32) hf)
  clear eK33
  have L4 : ∀ (fu : Nat) (l4_1 : Int32) (l4_2 : Int32), F_X7_order_L4 S a0 K33 fu l4_1 l4_2 = some r → GoM G l 2 (TmR G (some (.int r)) 97 S 0 0) mX7_order 4 [(0, .ref a0), (1, .int l4_1), (2, .int l4_2)] [] S := by
    intro fu
    induction fu with
    | zero => intro l4_1 l4_2 hf; rw [F_X7_order_L4] at hf; cases hf
    | succ fu ih =>
      intro l4_1 l4_2 hf
      rw [F_X7_order_L4] at hf
      refine Go.iload_n 2 5 rfl dX7_order_4 rfl ?_
      refine Go.aload_n 0 6 rfl dX7_order_5 rfl ?_
      obtain ⟨k6, qk6, hk6, hf⟩ := f_rfd hf
      refine Go.getR 9 rfl dX7_order_6 fl_X7_22 rfl (isT_lt ha0) (isT_sh ha0) qk6 ?_
      refine Go.iconst (0 : Int32) 10 rfl dX7_order_9 ci_0 ?_
      obtain ⟨g10, hf⟩ := f_grd hf
      refine Go.iald 11 rfl dX7_order_10 (isT_lt hk6) (isT_sh hk6) g10 ?_
      refine Go.icmp_ge 33 14 rfl dX7_order_11 rfl (fun hc => ?_) (fun hc => ?_)
      · replace hf := f_if hf hc
        exact Go.sub [0, 1] [(0, .ref a0), (1, .int l4_1)] rfl (J33 l4_1 hf)
      · replace hf := f_el hf hc
        refine Go.iload_n 1 15 rfl dX7_order_14 rfl ?_
        refine Go.iconst (1 : Int32) 16 rfl dX7_order_15 ci_1 ?_
        refine Go.aload_n 0 17 rfl dX7_order_16 rfl ?_
        refine Go.getR 20 rfl dX7_order_17 fl_X7_22 rfl (isT_lt ha0) (isT_sh ha0) qk6 ?_
        refine Go.iconst (3 : Int32) 21 rfl dX7_order_20 ci_3 ?_
        refine Go.iload_n 2 22 rfl dX7_order_21 rfl ?_
        refine Go.iadd 23 rfl dX7_order_22 ?_
        obtain ⟨g23, hf⟩ := f_grd hf
        refine Go.iald 24 rfl dX7_order_23 (isT_lt hk6) (isT_sh hk6) g23 ?_
        refine Go.ishl 25 rfl dX7_order_24 ?_
        refine Go.ior 26 rfl dX7_order_25 ?_
        obtain ⟨v26, ev26, hf⟩ := f_nm hf
        refine Go.topi v26 ev26 ?_
        refine Go.istore_n 27 [(1, .int v26), (0, .ref a0), (2, .int l4_2)] rfl dX7_order_26 (by decide) rfl ?_
        refine Go.inc 2 30 (1 : Int32) [(2, .int (l4_2 + (1 : Int32))), (1, .int v26), (0, .ref a0)] rfl dX7_order_27 rfl ci_1 (by decide) rfl ?_
        refine Go.goto 4 dX7_order_30 rfl ?_
        exact Go.sub [2, 1, 0] [(0, .ref a0), (1, .int v26), (2, .int (l4_2 + (1 : Int32)))] rfl (ih v26 (l4_2 + (1 : Int32)) hf)
  exact Go.sub [2, 1, 0] [(0, .ref a0), (1, .int (0 : Int32)), (2, .int (0 : Int32))] rfl (L4 n (0 : Int32) (0 : Int32) hf)
theorem dX7_byAge_0 : decode cX7_byAge 0 = .ok (.iload_n 1, 1) := by decide +kernel
theorem dX7_byAge_1 : decode cX7_byAge 1 = .ok (.invokestatic 72, 3) := by decide +kernel
theorem dX7_byAge_4 : decode cX7_byAge 4 = .ok (.ifCond .ne 5, 3) := by decide +kernel
theorem dX7_byAge_7 : decode cX7_byAge 7 = .ok (.iconst (-1), 1) := by decide +kernel
theorem dX7_byAge_8 : decode cX7_byAge 8 = .ok (.ireturn, 1) := by decide +kernel
theorem dX7_byAge_9 : decode cX7_byAge 9 = .ok (.aload_n 0, 1) := by decide +kernel
theorem dX7_byAge_10 : decode cX7_byAge 10 = .ok (.iload_n 1, 1) := by decide +kernel
theorem dX7_byAge_11 : decode cX7_byAge 11 = .ok (.aload_n 0, 1) := by decide +kernel
theorem dX7_byAge_12 : decode cX7_byAge 12 = .ok (.getfield 22, 3) := by decide +kernel
theorem dX7_byAge_15 : decode cX7_byAge 15 = .ok (.iconst 0, 1) := by decide +kernel
theorem dX7_byAge_16 : decode cX7_byAge 16 = .ok (.iaload, 1) := by decide +kernel
theorem dX7_byAge_17 : decode cX7_byAge 17 = .ok (.invokevirtual 178, 3) := by decide +kernel
theorem dX7_byAge_20 : decode cX7_byAge 20 = .ok (.istore_n 2, 1) := by decide +kernel
theorem dX7_byAge_21 : decode cX7_byAge 21 = .ok (.iconst 0, 1) := by decide +kernel
theorem dX7_byAge_22 : decode cX7_byAge 22 = .ok (.istore_n 3, 1) := by decide +kernel
theorem dX7_byAge_23 : decode cX7_byAge 23 = .ok (.bipush 9, 2) := by decide +kernel
theorem dX7_byAge_25 : decode cX7_byAge 25 = .ok (.istore 4, 2) := by decide +kernel
theorem dX7_byAge_27 : decode cX7_byAge 27 = .ok (.iload 4, 2) := by decide +kernel
theorem dX7_byAge_29 : decode cX7_byAge 29 = .ok (.ifCond .lt 55, 3) := by decide +kernel
theorem dX7_byAge_32 : decode cX7_byAge 32 = .ok (.iconst 0, 1) := by decide +kernel
theorem dX7_byAge_33 : decode cX7_byAge 33 = .ok (.istore 5, 2) := by decide +kernel
theorem dX7_byAge_35 : decode cX7_byAge 35 = .ok (.iload 5, 2) := by decide +kernel
theorem dX7_byAge_37 : decode cX7_byAge 37 = .ok (.iload_n 2, 1) := by decide +kernel
theorem dX7_byAge_38 : decode cX7_byAge 38 = .ok (.if_icmp .ge 40, 3) := by decide +kernel
theorem dX7_byAge_41 : decode cX7_byAge 41 = .ok (.aload_n 0, 1) := by decide +kernel
theorem dX7_byAge_42 : decode cX7_byAge 42 = .ok (.getfield 22, 3) := by decide +kernel
theorem dX7_byAge_45 : decode cX7_byAge 45 = .ok (.bipush 24, 2) := by decide +kernel
theorem dX7_byAge_47 : decode cX7_byAge 47 = .ok (.iload 5, 2) := by decide +kernel
theorem dX7_byAge_49 : decode cX7_byAge 49 = .ok (.iadd, 1) := by decide +kernel
theorem dX7_byAge_50 : decode cX7_byAge 50 = .ok (.iaload, 1) := by decide +kernel
theorem dX7_byAge_51 : decode cX7_byAge 51 = .ok (.iload 4, 2) := by decide +kernel
theorem dX7_byAge_53 : decode cX7_byAge 53 = .ok (.if_icmp .ne 19, 3) := by decide +kernel
theorem dX7_byAge_56 : decode cX7_byAge 56 = .ok (.aload_n 0, 1) := by decide +kernel
theorem dX7_byAge_57 : decode cX7_byAge 57 = .ok (.getfield 13, 3) := by decide +kernel
theorem dX7_byAge_60 : decode cX7_byAge 60 = .ok (.bipush 40, 2) := by decide +kernel
theorem dX7_byAge_62 : decode cX7_byAge 62 = .ok (.iload_n 1, 1) := by decide +kernel
theorem dX7_byAge_63 : decode cX7_byAge 63 = .ok (.imul, 1) := by decide +kernel
theorem dX7_byAge_64 : decode cX7_byAge 64 = .ok (.iload_n 3, 1) := by decide +kernel
theorem dX7_byAge_65 : decode cX7_byAge 65 = .ok (.iadd, 1) := by decide +kernel
theorem dX7_byAge_66 : decode cX7_byAge 66 = .ok (.iload 5, 2) := by decide +kernel
theorem dX7_byAge_68 : decode cX7_byAge 68 = .ok (.iastore, 1) := by decide +kernel
theorem dX7_byAge_69 : decode cX7_byAge 69 = .ok (.iinc 3 1, 3) := by decide +kernel
theorem dX7_byAge_72 : decode cX7_byAge 72 = .ok (.iinc 5 1, 3) := by decide +kernel
theorem dX7_byAge_75 : decode cX7_byAge 75 = .ok (.goto (-40), 3) := by decide +kernel
theorem dX7_byAge_78 : decode cX7_byAge 78 = .ok (.iinc 4 (-1), 3) := by decide +kernel
theorem dX7_byAge_81 : decode cX7_byAge 81 = .ok (.goto (-54), 3) := by decide +kernel
theorem dX7_byAge_84 : decode cX7_byAge 84 = .ok (.iload_n 2, 1) := by decide +kernel
theorem dX7_byAge_85 : decode cX7_byAge 85 = .ok (.ireturn, 1) := by decide +kernel
def F_X7_byAge_L35 (a0 : Nat) (a1 : Int32) (r17 : Int32) (l27_4 : Int32) (K78 : Int32 → aSt → Option (Int32 × aSt)) : Nat → Int32 → Int32 → aSt → Option (Int32 × aSt)
  | 0, _, _, _ => none
  | fu + 1, l35_3, l35_5, l35S =>
    if r17 ≤ l35_5 then (K78 l35_3 l35S) else
    rfd (l35S.2.2 a0 4) 7 fun k42 =>
    grd (inb ((24 : Int32) + l35_5) (SH k42).2) <|
    jn (fun (j72_3 : Int32) (j72S : aSt) => (F_X7_byAge_L35 a0 a1 r17 l27_4 K78 fu j72_3 (l35_5 + (1 : Int32)) j72S : Option (Int32 × aSt))) fun K72 =>
    if (l35S.1 k42 ((24 : Int32) + l35_5).toNatClampNeg) = l27_4 then (rfd (l35S.2.2 a0 1) 7 fun k57 =>
    grd (inb (((40 : Int32) * a1) + l35_3) (SH k57).2) <|
    nm (stI l35S k57 (((40 : Int32) * a1) + l35_3).toNatClampNeg l35_5) fun S68 =>
    K72 (l35_3 + (1 : Int32)) S68) else
    K72 l35_3 l35S
def F_X7_byAge_L27 (n : Nat) (a0 : Nat) (a1 : Int32) (r17 : Int32) (K84 : aSt → Option (Int32 × aSt)) : Nat → Int32 → Int32 → aSt → Option (Int32 × aSt)
  | 0, _, _, _ => none
  | fu + 1, l27_3, l27_4, l27S =>
    if l27_4 < 0 then (K84 l27S) else
    jn (fun (x78_3 : Int32) (x78S : aSt) => (F_X7_byAge_L27 n a0 a1 r17 K84 fu x78_3 (l27_4 + (-1 : Int32)) x78S : Option (Int32 × aSt))) fun K78 =>
    F_X7_byAge_L35 a0 a1 r17 l27_4 K78 n l27_3 (0 : Int32) l27S
def F_X7_byAge (n : Nat) (S : aSt) (a0 : Nat) (a1 : Int32) : Option (Int32 × aSt) :=
(F_X7_isRow n S a1).bind fun r1 =>
if r1 = 0 then (some ((-1 : Int32), S)) else
rfd (S.2.2 a0 4) 7 fun k12 =>
grd (inb (0 : Int32) (SH k12).2) <|
bn2 (F_X7_row n S a0 a1 (S.1 k12 (0 : Int32).toNatClampNeg)) fun r17 S17 =>
jn (fun (x84S : aSt) => (some (r17, x84S) : Option (Int32 × aSt))) fun K84 =>
F_X7_byAge_L27 n a0 a1 r17 K84 n (0 : Int32) (9 : Int32) S17
set_option maxHeartbeats 4000000 in
set_option maxRecDepth 100000 in
theorem C_X7_byAge (G : aG) (l : Launch) (n : Nat) (S : aSt) (a0 : Nat) (a1 : Int32) (r : Int32) (Sr : aSt) (ha0 : isT a0 6 = true) (hf : F_X7_byAge n S a0 a1 = some (r, Sr)) : Ctr G l yX7_byAge mX7_byAge (rmM 4) 97 97 S [.ref a0, .int a1] (some (.int r)) Sr := by
  refine Ctr.of (by decide) rfl rfl (Nat.le_of_ble_eq_true rfl) [(0, .ref a0), (1, .int a1)] rfl ?_
  unfold F_X7_byAge at hf
  refine Go.iload_n 1 1 rfl dX7_byAge_0 rfl ?_
  obtain ⟨r1, er1, hf⟩ := f_bnd hf
  refine Go.cS 4 [.int a1] [] (C_X7_isRow G l n S a1 r1  er1) rfl dX7_byAge_1 cx_X7_72 (by decide) (by decide) rfl (Nat.le_of_ble_eq_true rfl) ?_
  refine Go.if_ne 9 7 rfl dX7_byAge_4 rfl (fun hc => ?_) (fun hc => ?_)
  · replace hf := f_el hf hc
    refine Go.aload_n 0 10 rfl dX7_byAge_9 rfl ?_
    refine Go.iload_n 1 11 rfl dX7_byAge_10 rfl ?_
    refine Go.aload_n 0 12 rfl dX7_byAge_11 rfl ?_
    obtain ⟨k12, qk12, hk12, hf⟩ := f_rfd hf
    refine Go.getR 15 rfl dX7_byAge_12 fl_X7_22 rfl (isT_lt ha0) (isT_sh ha0) qk12 ?_
    refine Go.iconst (0 : Int32) 16 rfl dX7_byAge_15 ci_0 ?_
    obtain ⟨g16, hf⟩ := f_grd hf
    refine Go.iald 17 rfl dX7_byAge_16 (isT_lt hk12) (isT_sh hk12) g16 ?_
    obtain ⟨r17, S17, er17, hf⟩ := f_bn2 hf
    refine Go.cV 20 [.int a1, .int (S.1 k12 (0 : Int32).toNatClampNeg)] [] (C_X7_row G l n S a0 a1 (S.1 k12 (0 : Int32).toNatClampNeg) r17 S17 ha0 er17) rfl dX7_byAge_17 cv_X7_178 ha0 (by decide) (by decide) rfl (Nat.le_of_ble_eq_true rfl) ?_
    refine Go.istore_n 21 [(2, .int r17), (0, .ref a0), (1, .int a1)] rfl dX7_byAge_20 (by decide) rfl ?_
    refine Go.iconst (0 : Int32) 22 rfl dX7_byAge_21 ci_0 ?_
    refine Go.istore_n 23 [(3, .int (0 : Int32)), (2, .int r17), (0, .ref a0), (1, .int a1)] rfl dX7_byAge_22 (by decide) rfl ?_
    refine Go.bipush (9 : Int32) 25 rfl dX7_byAge_23 cb_9 ?_
    refine Go.istore 27 [(4, .int (9 : Int32)), (3, .int (0 : Int32)), (2, .int r17), (0, .ref a0), (1, .int a1)] rfl dX7_byAge_25 (by decide) rfl ?_
    obtain ⟨K84, eK84, hf⟩ := f_jn hf
    have J84 : ∀ (x84S : aSt), K84 x84S = some (r, Sr) → GoM G l 4 (TmR G (some (.int r)) 97 Sr 0 0) mX7_byAge 84 [(2, .int r17)] [] x84S := by
      intro x84S hf
      rw [eK84] at hf
      refine Go.iload_n 0 85 rfl dX7_byAge_84 rfl ?_
      exact Go.irS rfl dX7_byAge_85 hf
    clear eK84
    have L27 : ∀ (fu : Nat) (l27_3 : Int32) (l27_4 : Int32) (l27S : aSt), F_X7_byAge_L27 n a0 a1 r17 K84 fu l27_3 l27_4 l27S = some (r, Sr) → GoM G l 4 (TmR G (some (.int r)) 97 Sr 0 0) mX7_byAge 27 [(0, .ref a0), (1, .int a1), (2, .int r17), (3, .int l27_3), (4, .int l27_4)] [] l27S := by
      intro fu
      induction fu with
      | zero => intro l27_3 l27_4 l27S hf; rw [F_X7_byAge_L27] at hf; cases hf
      | succ fu ih =>
        intro l27_3 l27_4 l27S hf
        rw [F_X7_byAge_L27] at hf
        refine Go.iload 4 29 rfl dX7_byAge_27 rfl ?_
        refine Go.if_lt 84 32 rfl dX7_byAge_29 rfl (fun hc => ?_) (fun hc => ?_)
        · replace hf := f_if hf hc
          exact Go.sub [2] [(2, .int r17)] rfl (J84 l27S hf)
        · replace hf := f_el hf hc
          refine Go.iconst (0 : Int32) 33 rfl dX7_byAge_32 ci_0 ?_
          refine Go.istore 35 [(5, .int (0 : Int32)), (0, .ref a0), (1, .int a1), (2, .int r17), (3, .int l27_3), (4, .int l27_4)] rfl dX7_byAge_33 (by decide) rfl ?_
          obtain ⟨K78, eK78, hf⟩ := f_jn hf
          have J78 : ∀ (x78_3 : Int32) (x78S : aSt), K78 x78_3 x78S = some (r, Sr) → GoM G l 4 (TmR G (some (.int r)) 97 Sr 0 0) mX7_byAge 78 [(0, .ref a0), (1, .int a1), (2, .int r17), (3, .int x78_3), (4, .int l27_4)] [] x78S := by
            intro x78_3 x78S hf
            rw [eK78] at hf
            refine Go.inc 4 81 (-1 : Int32) [(4, .int (l27_4 + (-1 : Int32))), (0, .ref a0), (1, .int a1), (2, .int r17), (3, .int x78_3)] rfl dX7_byAge_78 rfl ci_m1 (by decide) rfl ?_
            refine Go.goto 27 dX7_byAge_81 rfl ?_
            exact Go.sub [1, 2, 3, 4, 0] [(0, .ref a0), (1, .int a1), (2, .int r17), (3, .int x78_3), (4, .int (l27_4 + (-1 : Int32)))] rfl (ih x78_3 (l27_4 + (-1 : Int32)) x78S hf)
          clear eK78
          have L35 : ∀ (fu : Nat) (l35_3 : Int32) (l35_5 : Int32) (l35S : aSt), F_X7_byAge_L35 a0 a1 r17 l27_4 K78 fu l35_3 l35_5 l35S = some (r, Sr) → GoM G l 4 (TmR G (some (.int r)) 97 Sr 0 0) mX7_byAge 35 [(0, .ref a0), (1, .int a1), (2, .int r17), (3, .int l35_3), (4, .int l27_4), (5, .int l35_5)] [] l35S := by
            intro fu
            induction fu with
            | zero => intro l35_3 l35_5 l35S hf; rw [F_X7_byAge_L35] at hf; cases hf
            | succ fu ih =>
              intro l35_3 l35_5 l35S hf
              rw [F_X7_byAge_L35] at hf
              refine Go.iload 5 37 rfl dX7_byAge_35 rfl ?_
              refine Go.iload_n 2 38 rfl dX7_byAge_37 rfl ?_
              refine Go.icmp_ge 78 41 rfl dX7_byAge_38 rfl (fun hc => ?_) (fun hc => ?_)
              · replace hf := f_if hf hc
                exact Go.sub [0, 1, 2, 3, 4] [(0, .ref a0), (1, .int a1), (2, .int r17), (3, .int l35_3), (4, .int l27_4)] rfl (J78 l35_3 l35S hf)
              · replace hf := f_el hf hc
                refine Go.aload_n 0 42 rfl dX7_byAge_41 rfl ?_
                obtain ⟨k42, qk42, hk42, hf⟩ := f_rfd hf
                refine Go.getR 45 rfl dX7_byAge_42 fl_X7_22 rfl (isT_lt ha0) (isT_sh ha0) qk42 ?_
                refine Go.bipush (24 : Int32) 47 rfl dX7_byAge_45 cb_24 ?_
                refine Go.iload 5 49 rfl dX7_byAge_47 rfl ?_
                refine Go.iadd 50 rfl dX7_byAge_49 ?_
                obtain ⟨g50, hf⟩ := f_grd hf
                refine Go.iald 51 rfl dX7_byAge_50 (isT_lt hk42) (isT_sh hk42) g50 ?_
                refine Go.iload 4 53 rfl dX7_byAge_51 rfl ?_
                obtain ⟨K72, eK72, hf⟩ := f_jn hf
                have J72 : ∀ (j72_3 : Int32) (j72S : aSt), K72 j72_3 j72S = some (r, Sr) → GoM G l 4 (TmR G (some (.int r)) 97 Sr 0 0) mX7_byAge 72 [(0, .ref a0), (1, .int a1), (2, .int r17), (3, .int j72_3), (4, .int l27_4), (5, .int l35_5)] [] j72S := by
                  intro j72_3 j72S hf
                  rw [eK72] at hf
                  refine Go.inc 5 75 (1 : Int32) [(5, .int (l35_5 + (1 : Int32))), (0, .ref a0), (1, .int a1), (2, .int r17), (3, .int j72_3), (4, .int l27_4)] rfl dX7_byAge_72 rfl ci_1 (by decide) rfl ?_
                  refine Go.goto 35 dX7_byAge_75 rfl ?_
                  exact Go.sub [1, 2, 3, 4, 5, 0] [(0, .ref a0), (1, .int a1), (2, .int r17), (3, .int j72_3), (4, .int l27_4), (5, .int (l35_5 + (1 : Int32)))] rfl (ih j72_3 (l35_5 + (1 : Int32)) j72S hf)
                clear eK72
                refine Go.icmp_ne 72 56 rfl dX7_byAge_53 rfl (fun hc => ?_) (fun hc => ?_)
                · replace hf := f_el hf hc
                  exact J72 l35_3 l35S hf
                · replace hf := f_if hf hc
                  refine Go.aload_n 0 57 rfl dX7_byAge_56 rfl ?_
                  obtain ⟨k57, qk57, hk57, hf⟩ := f_rfd hf
                  refine Go.getR 60 rfl dX7_byAge_57 fl_X7_13 rfl (isT_lt ha0) (isT_sh ha0) qk57 ?_
                  refine Go.bipush (40 : Int32) 62 rfl dX7_byAge_60 cb_40 ?_
                  refine Go.iload_n 1 63 rfl dX7_byAge_62 rfl ?_
                  refine Go.imul 64 rfl dX7_byAge_63 ?_
                  refine Go.iload_n 3 65 rfl dX7_byAge_64 rfl ?_
                  refine Go.iadd 66 rfl dX7_byAge_65 ?_
                  refine Go.iload 5 68 rfl dX7_byAge_66 rfl ?_
                  obtain ⟨g68, hf⟩ := f_grd hf
                  obtain ⟨S68, eS68, hf⟩ := f_nm hf
                  refine Go.iast 69 rfl dX7_byAge_68 (isT_lt hk57) (isT_sh hk57) g68 (Go.stt S68 eS68 ?_)
                  refine Go.inc 3 72 (1 : Int32) [(3, .int (l35_3 + (1 : Int32))), (0, .ref a0), (1, .int a1), (2, .int r17), (4, .int l27_4), (5, .int l35_5)] rfl dX7_byAge_69 rfl ci_1 (by decide) rfl ?_
                  exact Go.sub [1, 2, 3, 0, 4, 5] [(0, .ref a0), (1, .int a1), (2, .int r17), (3, .int (l35_3 + (1 : Int32))), (4, .int l27_4), (5, .int l35_5)] rfl (J72 (l35_3 + (1 : Int32)) S68 hf)
          exact Go.sub [1, 2, 3, 4, 5, 0] [(0, .ref a0), (1, .int a1), (2, .int r17), (3, .int l27_3), (4, .int l27_4), (5, .int (0 : Int32))] rfl (L35 n l27_3 (0 : Int32) l27S hf)
    exact Go.sub [3, 4, 2, 1, 0] [(0, .ref a0), (1, .int a1), (2, .int r17), (3, .int (0 : Int32)), (4, .int (9 : Int32))] rfl (L27 n (0 : Int32) (9 : Int32) S17 hf)
  · replace hf := f_if hf hc
    refine Go.iconst (-1 : Int32) 8 rfl dX7_byAge_7 ci_m1 ?_
    exact Go.irS rfl dX7_byAge_8 hf
theorem dX7_lots_0 : decode cX7_lots 0 = .ok (.iload_n 1, 1) := by decide +kernel
theorem dX7_lots_1 : decode cX7_lots 1 = .ok (.i2l, 1) := by decide +kernel
theorem dX7_lots_2 : decode cX7_lots 2 = .ok (.lconst 1, 1) := by decide +kernel
theorem dX7_lots_3 : decode cX7_lots 3 = .ok (.ldc2_w 213, 3) := by decide +kernel
theorem dX7_lots_6 : decode cX7_lots 6 = .ok (.invokestatic 66, 3) := by decide +kernel
theorem dX7_lots_9 : decode cX7_lots 9 = .ok (.ifCond .eq 15, 3) := by decide +kernel
theorem dX7_lots_12 : decode cX7_lots 12 = .ok (.iload_n 2, 1) := by decide +kernel
theorem dX7_lots_13 : decode cX7_lots 13 = .ok (.i2l, 1) := by decide +kernel
theorem dX7_lots_14 : decode cX7_lots 14 = .ok (.lconst 1, 1) := by decide +kernel
theorem dX7_lots_15 : decode cX7_lots 15 = .ok (.ldc2_w 215, 3) := by decide +kernel
theorem dX7_lots_18 : decode cX7_lots 18 = .ok (.invokestatic 66, 3) := by decide +kernel
theorem dX7_lots_21 : decode cX7_lots 21 = .ok (.ifCond .ne 5, 3) := by decide +kernel
theorem dX7_lots_24 : decode cX7_lots 24 = .ok (.iconst (-1), 1) := by decide +kernel
theorem dX7_lots_25 : decode cX7_lots 25 = .ok (.ireturn, 1) := by decide +kernel
theorem dX7_lots_26 : decode cX7_lots 26 = .ok (.aload_n 0, 1) := by decide +kernel
theorem dX7_lots_27 : decode cX7_lots 27 = .ok (.getfield 22, 3) := by decide +kernel
theorem dX7_lots_30 : decode cX7_lots 30 = .ok (.iconst 1, 1) := by decide +kernel
theorem dX7_lots_31 : decode cX7_lots 31 = .ok (.iaload, 1) := by decide +kernel
theorem dX7_lots_32 : decode cX7_lots 32 = .ok (.ifCond .ne 6, 3) := by decide +kernel
theorem dX7_lots_35 : decode cX7_lots 35 = .ok (.bipush (-4), 2) := by decide +kernel
theorem dX7_lots_37 : decode cX7_lots 37 = .ok (.ireturn, 1) := by decide +kernel
theorem dX7_lots_38 : decode cX7_lots 38 = .ok (.aload_n 0, 1) := by decide +kernel
theorem dX7_lots_39 : decode cX7_lots 39 = .ok (.getfield 22, 3) := by decide +kernel
theorem dX7_lots_42 : decode cX7_lots 42 = .ok (.iconst 2, 1) := by decide +kernel
theorem dX7_lots_43 : decode cX7_lots 43 = .ok (.iaload, 1) := by decide +kernel
theorem dX7_lots_44 : decode cX7_lots 44 = .ok (.iload_n 1, 1) := by decide +kernel
theorem dX7_lots_45 : decode cX7_lots 45 = .ok (.iadd, 1) := by decide +kernel
theorem dX7_lots_46 : decode cX7_lots 46 = .ok (.bipush 40, 2) := by decide +kernel
theorem dX7_lots_48 : decode cX7_lots 48 = .ok (.if_icmp .le 6, 3) := by decide +kernel
theorem dX7_lots_51 : decode cX7_lots 51 = .ok (.bipush (-2), 2) := by decide +kernel
theorem dX7_lots_53 : decode cX7_lots 53 = .ok (.ireturn, 1) := by decide +kernel
theorem dX7_lots_54 : decode cX7_lots 54 = .ok (.iload_n 2, 1) := by decide +kernel
theorem dX7_lots_55 : decode cX7_lots 55 = .ok (.i2l, 1) := by decide +kernel
theorem dX7_lots_56 : decode cX7_lots 56 = .ok (.lstore_n 3, 1) := by decide +kernel
theorem dX7_lots_57 : decode cX7_lots 57 = .ok (.iconst 0, 1) := by decide +kernel
theorem dX7_lots_58 : decode cX7_lots 58 = .ok (.istore 5, 2) := by decide +kernel
theorem dX7_lots_60 : decode cX7_lots 60 = .ok (.iconst 0, 1) := by decide +kernel
theorem dX7_lots_61 : decode cX7_lots 61 = .ok (.istore 6, 2) := by decide +kernel
theorem dX7_lots_63 : decode cX7_lots 63 = .ok (.iload 6, 2) := by decide +kernel
theorem dX7_lots_65 : decode cX7_lots 65 = .ok (.iload_n 1, 1) := by decide +kernel
theorem dX7_lots_66 : decode cX7_lots 66 = .ok (.if_icmp .ge 185, 3) := by decide +kernel
theorem dX7_lots_69 : decode cX7_lots 69 = .ok (.ldc2_w 217, 3) := by decide +kernel
theorem dX7_lots_72 : decode cX7_lots 72 = .ok (.lload_n 3, 1) := by decide +kernel
theorem dX7_lots_73 : decode cX7_lots 73 = .ok (.lmul, 1) := by decide +kernel
theorem dX7_lots_74 : decode cX7_lots 74 = .ok (.ldc2_w 219, 3) := by decide +kernel
theorem dX7_lots_77 : decode cX7_lots 77 = .ok (.lrem, 1) := by decide +kernel
theorem dX7_lots_78 : decode cX7_lots 78 = .ok (.lstore_n 3, 1) := by decide +kernel
theorem dX7_lots_79 : decode cX7_lots 79 = .ok (.lload_n 3, 1) := by decide +kernel
theorem dX7_lots_80 : decode cX7_lots 80 = .ok (.aload_n 0, 1) := by decide +kernel
theorem dX7_lots_81 : decode cX7_lots 81 = .ok (.getfield 22, 3) := by decide +kernel
theorem dX7_lots_84 : decode cX7_lots 84 = .ok (.iconst 1, 1) := by decide +kernel
theorem dX7_lots_85 : decode cX7_lots 85 = .ok (.iaload, 1) := by decide +kernel
theorem dX7_lots_86 : decode cX7_lots 86 = .ok (.i2l, 1) := by decide +kernel
theorem dX7_lots_87 : decode cX7_lots 87 = .ok (.lrem, 1) := by decide +kernel
theorem dX7_lots_88 : decode cX7_lots 88 = .ok (.l2i, 1) := by decide +kernel
theorem dX7_lots_89 : decode cX7_lots 89 = .ok (.istore 7, 2) := by decide +kernel
theorem dX7_lots_91 : decode cX7_lots 91 = .ok (.iconst 0, 1) := by decide +kernel
theorem dX7_lots_92 : decode cX7_lots 92 = .ok (.istore 8, 2) := by decide +kernel
theorem dX7_lots_94 : decode cX7_lots 94 = .ok (.iconst 0, 1) := by decide +kernel
theorem dX7_lots_95 : decode cX7_lots 95 = .ok (.istore 9, 2) := by decide +kernel
theorem dX7_lots_97 : decode cX7_lots 97 = .ok (.iload 9, 2) := by decide +kernel
theorem dX7_lots_99 : decode cX7_lots 99 = .ok (.aload_n 0, 1) := by decide +kernel
theorem dX7_lots_100 : decode cX7_lots 100 = .ok (.getfield 22, 3) := by decide +kernel
theorem dX7_lots_103 : decode cX7_lots 103 = .ok (.iconst 0, 1) := by decide +kernel
theorem dX7_lots_104 : decode cX7_lots 104 = .ok (.iaload, 1) := by decide +kernel
theorem dX7_lots_105 : decode cX7_lots 105 = .ok (.if_icmp .ge 48, 3) := by decide +kernel
theorem dX7_lots_108 : decode cX7_lots 108 = .ok (.iload 8, 2) := by decide +kernel
theorem dX7_lots_110 : decode cX7_lots 110 = .ok (.aload_n 0, 1) := by decide +kernel
theorem dX7_lots_111 : decode cX7_lots 111 = .ok (.iload 7, 2) := by decide +kernel
theorem dX7_lots_113 : decode cX7_lots 113 = .ok (.invokevirtual 147, 3) := by decide +kernel
theorem dX7_lots_116 : decode cX7_lots 116 = .ok (.ifCond .eq 27, 3) := by decide +kernel
theorem dX7_lots_119 : decode cX7_lots 119 = .ok (.aload_n 0, 1) := by decide +kernel
theorem dX7_lots_120 : decode cX7_lots 120 = .ok (.iload 9, 2) := by decide +kernel
theorem dX7_lots_122 : decode cX7_lots 122 = .ok (.invokevirtual 150, 3) := by decide +kernel
theorem dX7_lots_125 : decode cX7_lots 125 = .ok (.ifCond .eq 18, 3) := by decide +kernel
theorem dX7_lots_128 : decode cX7_lots 128 = .ok (.aload_n 0, 1) := by decide +kernel
theorem dX7_lots_129 : decode cX7_lots 129 = .ok (.iload 7, 2) := by decide +kernel
theorem dX7_lots_131 : decode cX7_lots 131 = .ok (.iload 9, 2) := by decide +kernel
theorem dX7_lots_133 : decode cX7_lots 133 = .ok (.invokevirtual 139, 3) := by decide +kernel
theorem dX7_lots_136 : decode cX7_lots 136 = .ok (.ifCond .eq 7, 3) := by decide +kernel
theorem dX7_lots_139 : decode cX7_lots 139 = .ok (.iconst 1, 1) := by decide +kernel
theorem dX7_lots_140 : decode cX7_lots 140 = .ok (.goto 4, 3) := by decide +kernel
theorem dX7_lots_143 : decode cX7_lots 143 = .ok (.iconst 0, 1) := by decide +kernel
theorem dX7_lots_144 : decode cX7_lots 144 = .ok (.iadd, 1) := by decide +kernel
theorem dX7_lots_145 : decode cX7_lots 145 = .ok (.istore 8, 2) := by decide +kernel
theorem dX7_lots_147 : decode cX7_lots 147 = .ok (.iinc 9 1, 3) := by decide +kernel
theorem dX7_lots_150 : decode cX7_lots 150 = .ok (.goto (-53), 3) := by decide +kernel
theorem dX7_lots_153 : decode cX7_lots 153 = .ok (.iload 8, 2) := by decide +kernel
theorem dX7_lots_155 : decode cX7_lots 155 = .ok (.ifCond .le 90, 3) := by decide +kernel
theorem dX7_lots_158 : decode cX7_lots 158 = .ok (.lload_n 3, 1) := by decide +kernel
theorem dX7_lots_159 : decode cX7_lots 159 = .ok (.ldc2_w 221, 3) := by decide +kernel
theorem dX7_lots_162 : decode cX7_lots 162 = .ok (.ldiv, 1) := by decide +kernel
theorem dX7_lots_163 : decode cX7_lots 163 = .ok (.iload 8, 2) := by decide +kernel
theorem dX7_lots_165 : decode cX7_lots 165 = .ok (.i2l, 1) := by decide +kernel
theorem dX7_lots_166 : decode cX7_lots 166 = .ok (.lrem, 1) := by decide +kernel
theorem dX7_lots_167 : decode cX7_lots 167 = .ok (.l2i, 1) := by decide +kernel
theorem dX7_lots_168 : decode cX7_lots 168 = .ok (.istore 9, 2) := by decide +kernel
theorem dX7_lots_170 : decode cX7_lots 170 = .ok (.iconst 0, 1) := by decide +kernel
theorem dX7_lots_171 : decode cX7_lots 171 = .ok (.istore 10, 2) := by decide +kernel
theorem dX7_lots_173 : decode cX7_lots 173 = .ok (.iload 9, 2) := by decide +kernel
theorem dX7_lots_175 : decode cX7_lots 175 = .ok (.ifCond .gt 23, 3) := by decide +kernel
theorem dX7_lots_178 : decode cX7_lots 178 = .ok (.aload_n 0, 1) := by decide +kernel
theorem dX7_lots_179 : decode cX7_lots 179 = .ok (.iload 10, 2) := by decide +kernel
theorem dX7_lots_181 : decode cX7_lots 181 = .ok (.invokevirtual 150, 3) := by decide +kernel
theorem dX7_lots_184 : decode cX7_lots 184 = .ok (.ifCond .eq 14, 3) := by decide +kernel
theorem dX7_lots_187 : decode cX7_lots 187 = .ok (.aload_n 0, 1) := by decide +kernel
theorem dX7_lots_188 : decode cX7_lots 188 = .ok (.iload 7, 2) := by decide +kernel
theorem dX7_lots_190 : decode cX7_lots 190 = .ok (.iload 10, 2) := by decide +kernel
theorem dX7_lots_192 : decode cX7_lots 192 = .ok (.invokevirtual 139, 3) := by decide +kernel
theorem dX7_lots_195 : decode cX7_lots 195 = .ok (.ifCond .ne 39, 3) := by decide +kernel
theorem dX7_lots_198 : decode cX7_lots 198 = .ok (.iload 9, 2) := by decide +kernel
theorem dX7_lots_200 : decode cX7_lots 200 = .ok (.aload_n 0, 1) := by decide +kernel
theorem dX7_lots_201 : decode cX7_lots 201 = .ok (.iload 10, 2) := by decide +kernel
theorem dX7_lots_203 : decode cX7_lots 203 = .ok (.invokevirtual 150, 3) := by decide +kernel
theorem dX7_lots_206 : decode cX7_lots 206 = .ok (.ifCond .eq 18, 3) := by decide +kernel
theorem dX7_lots_209 : decode cX7_lots 209 = .ok (.aload_n 0, 1) := by decide +kernel
theorem dX7_lots_210 : decode cX7_lots 210 = .ok (.iload 7, 2) := by decide +kernel
theorem dX7_lots_212 : decode cX7_lots 212 = .ok (.iload 10, 2) := by decide +kernel
theorem dX7_lots_214 : decode cX7_lots 214 = .ok (.invokevirtual 139, 3) := by decide +kernel
theorem dX7_lots_217 : decode cX7_lots 217 = .ok (.ifCond .eq 7, 3) := by decide +kernel
theorem dX7_lots_220 : decode cX7_lots 220 = .ok (.iconst 1, 1) := by decide +kernel
theorem dX7_lots_221 : decode cX7_lots 221 = .ok (.goto 4, 3) := by decide +kernel
theorem dX7_lots_224 : decode cX7_lots 224 = .ok (.iconst 0, 1) := by decide +kernel
theorem dX7_lots_225 : decode cX7_lots 225 = .ok (.isub, 1) := by decide +kernel
theorem dX7_lots_226 : decode cX7_lots 226 = .ok (.istore 9, 2) := by decide +kernel
theorem dX7_lots_228 : decode cX7_lots 228 = .ok (.iinc 10 1, 3) := by decide +kernel
theorem dX7_lots_231 : decode cX7_lots 231 = .ok (.goto (-58), 3) := by decide +kernel
theorem dX7_lots_234 : decode cX7_lots 234 = .ok (.aload_n 0, 1) := by decide +kernel
theorem dX7_lots_235 : decode cX7_lots 235 = .ok (.iload 7, 2) := by decide +kernel
theorem dX7_lots_237 : decode cX7_lots 237 = .ok (.iload 10, 2) := by decide +kernel
theorem dX7_lots_239 : decode cX7_lots 239 = .ok (.invokevirtual 153, 3) := by decide +kernel
theorem dX7_lots_242 : decode cX7_lots 242 = .ok (.iinc 5 1, 3) := by decide +kernel
theorem dX7_lots_245 : decode cX7_lots 245 = .ok (.iinc 6 1, 3) := by decide +kernel
theorem dX7_lots_248 : decode cX7_lots 248 = .ok (.goto (-185), 3) := by decide +kernel
theorem dX7_lots_251 : decode cX7_lots 251 = .ok (.iload 5, 2) := by decide +kernel
theorem dX7_lots_253 : decode cX7_lots 253 = .ok (.ireturn, 1) := by decide +kernel
def F_X7_lots_L173 (n : Nat) (a0 : Nat) (l63S : aSt) (v89 : Int32) (K234 : Int32 → Option (Int32 × aSt)) : Nat → Int32 → Int32 → Option (Int32 × aSt)
  | 0, _, _ => none
  | fu + 1, l173_9, l173_10 =>
    jn (((F_X7_isFreeCard n l63S a0 l173_10).bind fun r203 =>
    jn (fun (j225s1 : Int32) => (nm (l173_9 - j225s1) fun v226 =>
    F_X7_lots_L173 n a0 l63S v89 K234 fu v226 (l173_10 + (1 : Int32)) : Option (Int32 × aSt))) fun K225 =>
    jn ((K225 (0 : Int32) : Option (Int32 × aSt))) fun K224 =>
    if r203 = 0 then (K224) else
    (F_X7_isFit n l63S a0 v89 l173_10).bind fun r214 =>
    if r214 = 0 then (K224) else
    K225 (1 : Int32) : Option (Int32 × aSt))) fun K198 =>
    if 0 < l173_9 then (K198) else
    (F_X7_isFreeCard n l63S a0 l173_10).bind fun r181 =>
    if r181 = 0 then (K198) else
    (F_X7_isFit n l63S a0 v89 l173_10).bind fun r192 =>
    if r192 = 0 then (K198) else
    K234 l173_10
def F_X7_lots_L97 (n : Nat) (a0 : Nat) (l63S : aSt) (k81 : Nat) (v89 : Int32) (K153 : Int32 → Option (Int32 × aSt)) : Nat → Int32 → Int32 → Option (Int32 × aSt)
  | 0, _, _ => none
  | fu + 1, l97_8, l97_9 =>
    grd (inb (0 : Int32) (SH k81).2) <|
    if (l63S.1 k81 (0 : Int32).toNatClampNeg) ≤ l97_9 then (K153 l97_8) else
    (F_X7_isFree n l63S a0 v89).bind fun r113 =>
    jn (fun (j144s1 : Int32) => (nm (l97_8 + j144s1) fun v145 =>
    F_X7_lots_L97 n a0 l63S k81 v89 K153 fu v145 (l97_9 + (1 : Int32)) : Option (Int32 × aSt))) fun K144 =>
    jn ((K144 (0 : Int32) : Option (Int32 × aSt))) fun K143 =>
    if r113 = 0 then (K143) else
    (F_X7_isFreeCard n l63S a0 l97_9).bind fun r122 =>
    if r122 = 0 then (K143) else
    (F_X7_isFit n l63S a0 v89 l97_9).bind fun r133 =>
    if r133 = 0 then (K143) else
    K144 (1 : Int32)
def F_X7_lots_L63 (n : Nat) (a0 : Nat) (a1 : Int32) (K251 : Int32 → aSt → Option (Int32 × aSt)) : Nat → Int64 → Int32 → Int32 → aSt → Option (Int32 × aSt)
  | 0, _, _, _, _ => none
  | fu + 1, l63_3, l63_5, l63_6, l63S =>
    if a1 ≤ l63_6 then (K251 l63_5 l63S) else
    nm (((48271 : Int64) * l63_3) - ((48271 : Int64) * l63_3) / (2147483647 : Int64) * (2147483647 : Int64)) fun v78 =>
    rfd (l63S.2.2 a0 4) 7 fun k81 =>
    grd (inb (1 : Int32) (SH k81).2) <|
    grd (!decide ((l63S.1 k81 (1 : Int32).toNatClampNeg).toInt64 = 0)) <|
    nm (v78 - v78 / (l63S.1 k81 (1 : Int32).toNatClampNeg).toInt64 * (l63S.1 k81 (1 : Int32).toNatClampNeg).toInt64).toInt32 fun v89 =>
    jn (fun (x153_8 : Int32) => (jn (fun (j245_5 : Int32) (j245S : aSt) => (F_X7_lots_L63 n a0 a1 K251 fu v78 j245_5 (l63_6 + (1 : Int32)) j245S : Option (Int32 × aSt))) fun K245 =>
    if x153_8 ≤ 0 then (K245 l63_5 l63S) else
    grd (!decide (x153_8.toInt64 = 0)) <|
    nm ((v78 / (64 : Int64)) - (v78 / (64 : Int64)) / x153_8.toInt64 * x153_8.toInt64).toInt32 fun v168 =>
    jn (fun (x234_10 : Int32) => ((F_X7_takesIt n l63S a0 v89 x234_10).bind fun S239 =>
    K245 (l63_5 + (1 : Int32)) S239 : Option (Int32 × aSt))) fun K234 =>
    F_X7_lots_L173 n a0 l63S v89 K234 n v168 (0 : Int32) : Option (Int32 × aSt))) fun K153 =>
    F_X7_lots_L97 n a0 l63S k81 v89 K153 n (0 : Int32) (0 : Int32)
def F_X7_lots (n : Nat) (S : aSt) (a0 : Nat) (a1 : Int32) (a2 : Int32) : Option (Int32 × aSt) :=
(F_X7_in n S a1.toInt64 (1 : Int64) (20 : Int64)).bind fun r6 =>
if r6 = 0 then (some ((-1 : Int32), S)) else
(F_X7_in n S a2.toInt64 (1 : Int64) (2147483646 : Int64)).bind fun r18 =>
if r18 = 0 then (some ((-1 : Int32), S)) else
rfd (S.2.2 a0 4) 7 fun k27 =>
grd (inb (1 : Int32) (SH k27).2) <|
if (S.1 k27 (1 : Int32).toNatClampNeg) = 0 then (some ((-4 : Int32), S)) else
grd (inb (2 : Int32) (SH k27).2) <|
if ((S.1 k27 (2 : Int32).toNatClampNeg) + a1) ≤ (40 : Int32) then (jn (fun (x251_5 : Int32) (x251S : aSt) => (some (x251_5, x251S) : Option (Int32 × aSt))) fun K251 =>
F_X7_lots_L63 n a0 a1 K251 n a2.toInt64 (0 : Int32) (0 : Int32) S) else
some ((-2 : Int32), S)
set_option maxHeartbeats 4000000 in
set_option maxRecDepth 100000 in
theorem C_X7_lots (G : aG) (l : Launch) (n : Nat) (S : aSt) (a0 : Nat) (a1 : Int32) (a2 : Int32) (r : Int32) (Sr : aSt) (ha0 : isT a0 6 = true) (hf : F_X7_lots n S a0 a1 a2 = some (r, Sr)) : Ctr G l yX7_lots mX7_lots (rmM 4) 97 97 S [.ref a0, .int a1, .int a2] (some (.int r)) Sr := by
  refine Ctr.of (by decide) rfl rfl (Nat.le_of_ble_eq_true rfl) [(0, .ref a0), (1, .int a1), (2, .int a2)] rfl ?_
  unfold F_X7_lots at hf
  refine Go.iload_n 1 1 rfl dX7_lots_0 rfl ?_
  refine Go.i2l 2 rfl dX7_lots_1 ?_
  refine Go.lconst (1 : Int64) 3 rfl dX7_lots_2 cl_1 ?_
  refine Go.ldc2 (20 : Int64) 6 rfl dX7_lots_3 (am_mem 1211 (by decide +kernel) rfl) ?_
  obtain ⟨r6, er6, hf⟩ := f_bnd hf
  refine Go.cS 9 [.long a1.toInt64, .long (1 : Int64), .long (20 : Int64)] [] (C_X7_in G l n S a1.toInt64 (1 : Int64) (20 : Int64) r6  er6) rfl dX7_lots_6 cx_X7_66 (by decide) (by decide) rfl (Nat.le_of_ble_eq_true rfl) ?_
  refine Go.if_eq 24 12 rfl dX7_lots_9 rfl (fun hc => ?_) (fun hc => ?_)
  · replace hf := f_if hf hc
    refine Go.iconst (-1 : Int32) 25 rfl dX7_lots_24 ci_m1 ?_
    exact Go.irS rfl dX7_lots_25 hf
  · replace hf := f_el hf hc
    refine Go.iload_n 2 13 rfl dX7_lots_12 rfl ?_
    refine Go.i2l 14 rfl dX7_lots_13 ?_
    refine Go.lconst (1 : Int64) 15 rfl dX7_lots_14 cl_1 ?_
    refine Go.ldc2 (2147483646 : Int64) 18 rfl dX7_lots_15 (am_mem 1212 (by decide +kernel) rfl) ?_
    obtain ⟨r18, er18, hf⟩ := f_bnd hf
    refine Go.cS 21 [.long a2.toInt64, .long (1 : Int64), .long (2147483646 : Int64)] [] (C_X7_in G l n S a2.toInt64 (1 : Int64) (2147483646 : Int64) r18  er18) rfl dX7_lots_18 cx_X7_66 (by decide) (by decide) rfl (Nat.le_of_ble_eq_true rfl) ?_
    refine Go.if_ne 26 24 rfl dX7_lots_21 rfl (fun hc => ?_) (fun hc => ?_)
    · replace hf := f_el hf hc
      refine Go.aload_n 0 27 rfl dX7_lots_26 rfl ?_
      obtain ⟨k27, qk27, hk27, hf⟩ := f_rfd hf
      refine Go.getR 30 rfl dX7_lots_27 fl_X7_22 rfl (isT_lt ha0) (isT_sh ha0) qk27 ?_
      refine Go.iconst (1 : Int32) 31 rfl dX7_lots_30 ci_1 ?_
      obtain ⟨g31, hf⟩ := f_grd hf
      refine Go.iald 32 rfl dX7_lots_31 (isT_lt hk27) (isT_sh hk27) g31 ?_
      refine Go.if_ne 38 35 rfl dX7_lots_32 rfl (fun hc => ?_) (fun hc => ?_)
      · replace hf := f_el hf hc
        refine Go.aload_n 0 39 rfl dX7_lots_38 rfl ?_
        refine Go.getR 42 rfl dX7_lots_39 fl_X7_22 rfl (isT_lt ha0) (isT_sh ha0) qk27 ?_
        refine Go.iconst (2 : Int32) 43 rfl dX7_lots_42 ci_2 ?_
        obtain ⟨g43, hf⟩ := f_grd hf
        refine Go.iald 44 rfl dX7_lots_43 (isT_lt hk27) (isT_sh hk27) g43 ?_
        refine Go.iload_n 1 45 rfl dX7_lots_44 rfl ?_
        refine Go.iadd 46 rfl dX7_lots_45 ?_
        refine Go.bipush (40 : Int32) 48 rfl dX7_lots_46 cb_40 ?_
        refine Go.icmp_le 54 51 rfl dX7_lots_48 rfl (fun hc => ?_) (fun hc => ?_)
        · replace hf := f_if hf hc
          refine Go.iload_n 2 55 rfl dX7_lots_54 rfl ?_
          refine Go.i2l 56 rfl dX7_lots_55 ?_
          refine Go.lstore_n 57 [(3, .long a2.toInt64), (0, .ref a0), (1, .int a1), (2, .int a2)] rfl dX7_lots_56 (by decide) rfl ?_
          refine Go.iconst (0 : Int32) 58 rfl dX7_lots_57 ci_0 ?_
          refine Go.istore 60 [(5, .int (0 : Int32)), (3, .long a2.toInt64), (0, .ref a0), (1, .int a1), (2, .int a2)] rfl dX7_lots_58 (by decide) rfl ?_
          refine Go.iconst (0 : Int32) 61 rfl dX7_lots_60 ci_0 ?_
          refine Go.istore 63 [(6, .int (0 : Int32)), (5, .int (0 : Int32)), (3, .long a2.toInt64), (0, .ref a0), (1, .int a1), (2, .int a2)] rfl dX7_lots_61 (by decide) rfl ?_
          obtain ⟨K251, eK251, hf⟩ := f_jn hf
          have J251 : ∀ (x251_5 : Int32) (x251S : aSt), K251 x251_5 x251S = some (r, Sr) → GoM G l 4 (TmR G (some (.int r)) 97 Sr 0 0) mX7_lots 251 [(5, .int x251_5)] [] x251S := by
            intro x251_5 x251S hf
            rw [eK251] at hf
            refine Go.iload 0 253 rfl dX7_lots_251 rfl ?_
            exact Go.irS rfl dX7_lots_253 hf
          clear eK251
          have L63 : ∀ (fu : Nat) (l63_3 : Int64) (l63_5 : Int32) (l63_6 : Int32) (l63S : aSt), F_X7_lots_L63 n a0 a1 K251 fu l63_3 l63_5 l63_6 l63S = some (r, Sr) → GoM G l 4 (TmR G (some (.int r)) 97 Sr 0 0) mX7_lots 63 [(0, .ref a0), (1, .int a1), (3, .long l63_3), (5, .int l63_5), (6, .int l63_6)] [] l63S := by
            intro fu
            induction fu with
            | zero => intro l63_3 l63_5 l63_6 l63S hf; rw [F_X7_lots_L63] at hf; cases hf
            | succ fu ih =>
              intro l63_3 l63_5 l63_6 l63S hf
              rw [F_X7_lots_L63] at hf
              refine Go.iload 4 65 rfl dX7_lots_63 rfl ?_
              refine Go.iload_n 1 66 rfl dX7_lots_65 rfl ?_
              refine Go.icmp_ge 251 69 rfl dX7_lots_66 rfl (fun hc => ?_) (fun hc => ?_)
              · replace hf := f_if hf hc
                exact Go.sub [3] [(5, .int l63_5)] rfl (J251 l63_5 l63S hf)
              · replace hf := f_el hf hc
                refine Go.ldc2 (48271 : Int64) 72 rfl dX7_lots_69 (am_mem 1213 (by decide +kernel) rfl) ?_
                refine Go.lload_n 2 73 rfl dX7_lots_72 rfl ?_
                refine Go.lmul 74 rfl dX7_lots_73 ?_
                refine Go.ldc2 (2147483647 : Int64) 77 rfl dX7_lots_74 (am_mem 1214 (by decide +kernel) rfl) ?_
                refine Go.lrem 78 rfl dX7_lots_77 (by decide) ?_
                obtain ⟨v78, ev78, hf⟩ := f_nm hf
                refine Go.topl v78 ev78 ?_
                refine Go.lstore_n 79 [(3, .long v78), (0, .ref a0), (1, .int a1), (5, .int l63_5), (6, .int l63_6)] rfl dX7_lots_78 (by decide) rfl ?_
                refine Go.lload_n 0 80 rfl dX7_lots_79 rfl ?_
                refine Go.aload_n 1 81 rfl dX7_lots_80 rfl ?_
                obtain ⟨k81, qk81, hk81, hf⟩ := f_rfd hf
                refine Go.getR 84 rfl dX7_lots_81 fl_X7_22 rfl (isT_lt ha0) (isT_sh ha0) qk81 ?_
                refine Go.iconst (1 : Int32) 85 rfl dX7_lots_84 ci_1 ?_
                obtain ⟨g85, hf⟩ := f_grd hf
                refine Go.iald 86 rfl dX7_lots_85 (isT_lt hk81) (isT_sh hk81) g85 ?_
                refine Go.i2l 87 rfl dX7_lots_86 ?_
                obtain ⟨g87, hf⟩ := f_grd hf
                refine Go.lrem 88 rfl dX7_lots_87 (by simpa using g87) ?_
                refine Go.l2i 89 rfl dX7_lots_88 ?_
                obtain ⟨v89, ev89, hf⟩ := f_nm hf
                refine Go.topi v89 ev89 ?_
                refine Go.istore 91 [(7, .int v89), (3, .long v78), (0, .ref a0), (1, .int a1), (5, .int l63_5), (6, .int l63_6)] rfl dX7_lots_89 (by decide) rfl ?_
                refine Go.iconst (0 : Int32) 92 rfl dX7_lots_91 ci_0 ?_
                refine Go.istore 94 [(8, .int (0 : Int32)), (7, .int v89), (3, .long v78), (0, .ref a0), (1, .int a1), (5, .int l63_5), (6, .int l63_6)] rfl dX7_lots_92 (by decide) rfl ?_
                refine Go.iconst (0 : Int32) 95 rfl dX7_lots_94 ci_0 ?_
                refine Go.istore 97 [(9, .int (0 : Int32)), (8, .int (0 : Int32)), (7, .int v89), (3, .long v78), (0, .ref a0), (1, .int a1), (5, .int l63_5), (6, .int l63_6)] rfl dX7_lots_95 (by decide) rfl ?_
                obtain ⟨K153, eK153, hf⟩ := f_jn hf
                have J153 : ∀ (x153_8 : Int32), K153 x153_8 = some (r, Sr) → GoM G l 4 (TmR G (some (.int r)) 97 Sr 0 0) mX7_lots 153 [(0, .ref a0), (1, .int a1), (3, .long v78), (5, .int l63_5), (6, .int l63_6), (7, .int v89), (8, .int x153_8)] [] l63S := by
                  intro x153_8 hf
                  rw [eK153] at hf
                  refine Go.iload 6 155 rfl dX7_lots_153 rfl ?_
                  obtain ⟨K245, eK245, hf⟩ := f_jn hf
                  have J245 : ∀ (j245_5 : Int32) (j245S : aSt), K245 j245_5 j245S = some (r, Sr) → GoM G l 4 (TmR G (some (.int r)) 97 Sr 0 0) mX7_lots 245 [(0, .ref a0), (1, .int a1), (3, .long v78), (5, .int j245_5), (6, .int l63_6)] [] j245S := by
                    intro j245_5 j245S hf
                    rw [eK245] at hf
                    refine Go.inc 4 248 (1 : Int32) [(6, .int (l63_6 + (1 : Int32))), (0, .ref a0), (1, .int a1), (3, .long v78), (5, .int j245_5)] rfl dX7_lots_245 rfl ci_1 (by decide) rfl ?_
                    refine Go.goto 63 dX7_lots_248 rfl ?_
                    exact Go.sub [1, 2, 3, 4, 0] [(0, .ref a0), (1, .int a1), (3, .long v78), (5, .int j245_5), (6, .int (l63_6 + (1 : Int32)))] rfl (ih v78 j245_5 (l63_6 + (1 : Int32)) j245S hf)
                  clear eK245
                  refine Go.if_le 245 158 rfl dX7_lots_155 rfl (fun hc => ?_) (fun hc => ?_)
                  · replace hf := f_if hf hc
                    exact Go.sub [0, 1, 2, 3, 4] [(0, .ref a0), (1, .int a1), (3, .long v78), (5, .int l63_5), (6, .int l63_6)] rfl (J245 l63_5 l63S hf)
                  · replace hf := f_el hf hc
                    refine Go.lload_n 2 159 rfl dX7_lots_158 rfl ?_
                    refine Go.ldc2 (64 : Int64) 162 rfl dX7_lots_159 (am_mem 1215 (by decide +kernel) rfl) ?_
                    refine Go.ldiv 163 rfl dX7_lots_162 (by decide) ?_
                    refine Go.iload 6 165 rfl dX7_lots_163 rfl ?_
                    refine Go.i2l 166 rfl dX7_lots_165 ?_
                    obtain ⟨g166, hf⟩ := f_grd hf
                    refine Go.lrem 167 rfl dX7_lots_166 (by simpa using g166) ?_
                    refine Go.l2i 168 rfl dX7_lots_167 ?_
                    obtain ⟨v168, ev168, hf⟩ := f_nm hf
                    refine Go.topi v168 ev168 ?_
                    refine Go.istore 170 [(9, .int v168), (0, .ref a0), (1, .int a1), (3, .long v78), (5, .int l63_5), (6, .int l63_6), (7, .int v89), (8, .int x153_8)] rfl dX7_lots_168 (by decide) rfl ?_
                    refine Go.iconst (0 : Int32) 171 rfl dX7_lots_170 ci_0 ?_
                    refine Go.istore 173 [(10, .int (0 : Int32)), (9, .int v168), (0, .ref a0), (1, .int a1), (3, .long v78), (5, .int l63_5), (6, .int l63_6), (7, .int v89), (8, .int x153_8)] rfl dX7_lots_171 (by decide) rfl ?_
                    obtain ⟨K234, eK234, hf⟩ := f_jn hf
                    have J234 : ∀ (x234_10 : Int32), K234 x234_10 = some (r, Sr) → GoM G l 4 (TmR G (some (.int r)) 97 Sr 0 0) mX7_lots 234 [(0, .ref a0), (1, .int a1), (3, .long v78), (5, .int l63_5), (6, .int l63_6), (7, .int v89), (10, .int x234_10)] [] l63S := by
                      intro x234_10 hf
                      rw [eK234] at hf
                      refine Go.aload_n 0 235 rfl dX7_lots_234 rfl ?_
                      refine Go.iload 5 237 rfl dX7_lots_235 rfl ?_
                      refine Go.iload 6 239 rfl dX7_lots_237 rfl ?_
                      obtain ⟨S239, eS239, hf⟩ := f_bnd hf
                      refine Go.cVv 242 [.int v89, .int x234_10] [] (C_X7_takesIt G l n l63S a0 v89 x234_10 S239 ha0 eS239) rfl dX7_lots_239 cv_X7_153 ha0 (by decide) (by decide) rfl (Nat.le_of_ble_eq_true rfl) ?_
                      refine Go.inc 3 245 (1 : Int32) [(5, .int (l63_5 + (1 : Int32))), (0, .ref a0), (1, .int a1), (3, .long v78), (6, .int l63_6), (7, .int v89), (10, .int x234_10)] rfl dX7_lots_242 rfl ci_1 (by decide) rfl ?_
                      exact Go.sub [1, 2, 3, 0, 4] [(0, .ref a0), (1, .int a1), (3, .long v78), (5, .int (l63_5 + (1 : Int32))), (6, .int l63_6)] rfl (J245 (l63_5 + (1 : Int32)) S239 hf)
                    clear eK234
                    have L173 : ∀ (fu : Nat) (l173_9 : Int32) (l173_10 : Int32), F_X7_lots_L173 n a0 l63S v89 K234 fu l173_9 l173_10 = some (r, Sr) → GoM G l 4 (TmR G (some (.int r)) 97 Sr 0 0) mX7_lots 173 [(0, .ref a0), (1, .int a1), (3, .long v78), (5, .int l63_5), (6, .int l63_6), (7, .int v89), (9, .int l173_9), (10, .int l173_10)] [] l63S := by
                      intro fu
                      induction fu with
                      | zero => intro l173_9 l173_10 hf; rw [F_X7_lots_L173] at hf; cases hf
                      | succ fu ih =>
                        intro l173_9 l173_10 hf
                        rw [F_X7_lots_L173] at hf
                        refine Go.iload 6 175 rfl dX7_lots_173 rfl ?_
                        obtain ⟨K198, eK198, hf⟩ := f_jn hf
                        have J198 : K198 = some (r, Sr) → GoM G l 4 (TmR G (some (.int r)) 97 Sr 0 0) mX7_lots 198 [(0, .ref a0), (1, .int a1), (3, .long v78), (5, .int l63_5), (6, .int l63_6), (7, .int v89), (9, .int l173_9), (10, .int l173_10)] [] l63S := by
                          intro hf
                          rw [eK198] at hf
                          refine Go.iload 6 200 rfl dX7_lots_198 rfl ?_
                          refine Go.aload_n 0 201 rfl dX7_lots_200 rfl ?_
                          refine Go.iload 7 203 rfl dX7_lots_201 rfl ?_
                          obtain ⟨r203, er203, hf⟩ := f_bnd hf
                          refine Go.cV 206 [.int l173_10] [.int l173_9] (C_X7_isFreeCard G l n l63S a0 l173_10 r203 ha0 er203) rfl dX7_lots_203 cv_X7_150 ha0 (by decide) (by decide) rfl (Nat.le_of_ble_eq_true rfl) ?_
                          obtain ⟨K225, eK225, hf⟩ := f_jn hf
                          have J225 : ∀ (j225s1 : Int32), K225 j225s1 = some (r, Sr) → GoM G l 4 (TmR G (some (.int r)) 97 Sr 0 0) mX7_lots 225 [(0, .ref a0), (1, .int a1), (3, .long v78), (5, .int l63_5), (6, .int l63_6), (7, .int v89), (10, .int l173_10)] [.int j225s1, .int l173_9] l63S := by
                            intro j225s1 hf
                            rw [eK225] at hf
                            refine Go.isub 226 rfl dX7_lots_225 ?_
                            obtain ⟨v226, ev226, hf⟩ := f_nm hf
                            refine Go.topi v226 ev226 ?_
                            refine Go.istore 228 [(9, .int v226), (0, .ref a0), (1, .int a1), (3, .long v78), (5, .int l63_5), (6, .int l63_6), (7, .int v89), (10, .int l173_10)] rfl dX7_lots_226 (by decide) rfl ?_
                            refine Go.inc 7 231 (1 : Int32) [(10, .int (l173_10 + (1 : Int32))), (9, .int v226), (0, .ref a0), (1, .int a1), (3, .long v78), (5, .int l63_5), (6, .int l63_6), (7, .int v89)] rfl dX7_lots_228 rfl ci_1 (by decide) rfl ?_
                            refine Go.goto 173 dX7_lots_231 rfl ?_
                            exact Go.sub [2, 3, 4, 5, 6, 7, 1, 0] [(0, .ref a0), (1, .int a1), (3, .long v78), (5, .int l63_5), (6, .int l63_6), (7, .int v89), (9, .int v226), (10, .int (l173_10 + (1 : Int32)))] rfl (ih v226 (l173_10 + (1 : Int32)) hf)
                          clear eK225
                          obtain ⟨K224, eK224, hf⟩ := f_jn hf
                          have J224 : K224 = some (r, Sr) → GoM G l 4 (TmR G (some (.int r)) 97 Sr 0 0) mX7_lots 224 [(0, .ref a0), (1, .int a1), (3, .long v78), (5, .int l63_5), (6, .int l63_6), (7, .int v89), (10, .int l173_10)] [.int l173_9] l63S := by
                            intro hf
                            rw [eK224] at hf
                            refine Go.iconst (0 : Int32) 225 rfl dX7_lots_224 ci_0 ?_
                            exact J225 (0 : Int32) hf
                          clear eK224
                          refine Go.if_eq 224 209 rfl dX7_lots_206 rfl (fun hc => ?_) (fun hc => ?_)
                          · replace hf := f_if hf hc
                            exact Go.sub [0, 1, 2, 3, 4, 5, 7] [(0, .ref a0), (1, .int a1), (3, .long v78), (5, .int l63_5), (6, .int l63_6), (7, .int v89), (10, .int l173_10)] rfl (J224 hf)
                          · replace hf := f_el hf hc
                            refine Go.aload_n 0 210 rfl dX7_lots_209 rfl ?_
                            refine Go.iload 5 212 rfl dX7_lots_210 rfl ?_
                            refine Go.iload 7 214 rfl dX7_lots_212 rfl ?_
                            obtain ⟨r214, er214, hf⟩ := f_bnd hf
                            refine Go.cV 217 [.int v89, .int l173_10] [.int l173_9] (C_X7_isFit G l n l63S a0 v89 l173_10 r214 ha0 er214) rfl dX7_lots_214 cv_X7_139 ha0 (by decide) (by decide) rfl (Nat.le_of_ble_eq_true rfl) ?_
                            refine Go.if_eq 224 220 rfl dX7_lots_217 rfl (fun hc => ?_) (fun hc => ?_)
                            · replace hf := f_if hf hc
                              exact Go.sub [0, 1, 2, 3, 4, 5, 7] [(0, .ref a0), (1, .int a1), (3, .long v78), (5, .int l63_5), (6, .int l63_6), (7, .int v89), (10, .int l173_10)] rfl (J224 hf)
                            · replace hf := f_el hf hc
                              refine Go.iconst (1 : Int32) 221 rfl dX7_lots_220 ci_1 ?_
                              refine Go.goto 225 dX7_lots_221 rfl ?_
                              exact Go.sub [0, 1, 2, 3, 4, 5, 7] [(0, .ref a0), (1, .int a1), (3, .long v78), (5, .int l63_5), (6, .int l63_6), (7, .int v89), (10, .int l173_10)] rfl (J225 (1 : Int32) hf)
                        clear eK198
                        refine Go.if_gt 198 178 rfl dX7_lots_175 rfl (fun hc => ?_) (fun hc => ?_)
                        · replace hf := f_if hf hc
                          exact J198 hf
                        · replace hf := f_el hf hc
                          refine Go.aload_n 0 179 rfl dX7_lots_178 rfl ?_
                          refine Go.iload 7 181 rfl dX7_lots_179 rfl ?_
                          obtain ⟨r181, er181, hf⟩ := f_bnd hf
                          refine Go.cV 184 [.int l173_10] [] (C_X7_isFreeCard G l n l63S a0 l173_10 r181 ha0 er181) rfl dX7_lots_181 cv_X7_150 ha0 (by decide) (by decide) rfl (Nat.le_of_ble_eq_true rfl) ?_
                          refine Go.if_eq 198 187 rfl dX7_lots_184 rfl (fun hc => ?_) (fun hc => ?_)
                          · replace hf := f_if hf hc
                            exact J198 hf
                          · replace hf := f_el hf hc
                            refine Go.aload_n 0 188 rfl dX7_lots_187 rfl ?_
                            refine Go.iload 5 190 rfl dX7_lots_188 rfl ?_
                            refine Go.iload 7 192 rfl dX7_lots_190 rfl ?_
                            obtain ⟨r192, er192, hf⟩ := f_bnd hf
                            refine Go.cV 195 [.int v89, .int l173_10] [] (C_X7_isFit G l n l63S a0 v89 l173_10 r192 ha0 er192) rfl dX7_lots_192 cv_X7_139 ha0 (by decide) (by decide) rfl (Nat.le_of_ble_eq_true rfl) ?_
                            refine Go.if_ne 234 198 rfl dX7_lots_195 rfl (fun hc => ?_) (fun hc => ?_)
                            · replace hf := f_el hf hc
                              exact Go.sub [0, 1, 2, 3, 4, 5, 7] [(0, .ref a0), (1, .int a1), (3, .long v78), (5, .int l63_5), (6, .int l63_6), (7, .int v89), (10, .int l173_10)] rfl (J234 l173_10 hf)
                            · replace hf := f_if hf hc
                              exact J198 hf
                    exact Go.sub [2, 3, 4, 5, 6, 7, 1, 0] [(0, .ref a0), (1, .int a1), (3, .long v78), (5, .int l63_5), (6, .int l63_6), (7, .int v89), (9, .int v168), (10, .int (0 : Int32))] rfl (L173 n v168 (0 : Int32) hf)
                clear eK153
                have L97 : ∀ (fu : Nat) (l97_8 : Int32) (l97_9 : Int32), F_X7_lots_L97 n a0 l63S k81 v89 K153 fu l97_8 l97_9 = some (r, Sr) → GoM G l 4 (TmR G (some (.int r)) 97 Sr 0 0) mX7_lots 97 [(0, .ref a0), (1, .int a1), (3, .long v78), (5, .int l63_5), (6, .int l63_6), (7, .int v89), (8, .int l97_8), (9, .int l97_9)] [] l63S := by
                  intro fu
                  induction fu with
                  | zero => intro l97_8 l97_9 hf; rw [F_X7_lots_L97] at hf; cases hf
                  | succ fu ih =>
                    intro l97_8 l97_9 hf
                    rw [F_X7_lots_L97] at hf
                    refine Go.iload 7 99 rfl dX7_lots_97 rfl ?_
                    refine Go.aload_n 0 100 rfl dX7_lots_99 rfl ?_
                    refine Go.getR 103 rfl dX7_lots_100 fl_X7_22 rfl (isT_lt ha0) (isT_sh ha0) qk81 ?_
                    refine Go.iconst (0 : Int32) 104 rfl dX7_lots_103 ci_0 ?_
                    obtain ⟨g104, hf⟩ := f_grd hf
                    refine Go.iald 105 rfl dX7_lots_104 (isT_lt hk81) (isT_sh hk81) g104 ?_
                    refine Go.icmp_ge 153 108 rfl dX7_lots_105 rfl (fun hc => ?_) (fun hc => ?_)
                    · replace hf := f_if hf hc
                      exact Go.sub [0, 1, 2, 3, 4, 5, 6] [(0, .ref a0), (1, .int a1), (3, .long v78), (5, .int l63_5), (6, .int l63_6), (7, .int v89), (8, .int l97_8)] rfl (J153 l97_8 hf)
                    · replace hf := f_el hf hc
                      refine Go.iload 6 110 rfl dX7_lots_108 rfl ?_
                      refine Go.aload_n 0 111 rfl dX7_lots_110 rfl ?_
                      refine Go.iload 5 113 rfl dX7_lots_111 rfl ?_
                      obtain ⟨r113, er113, hf⟩ := f_bnd hf
                      refine Go.cV 116 [.int v89] [.int l97_8] (C_X7_isFree G l n l63S a0 v89 r113 ha0 er113) rfl dX7_lots_113 cv_X7_147 ha0 (by decide) (by decide) rfl (Nat.le_of_ble_eq_true rfl) ?_
                      obtain ⟨K144, eK144, hf⟩ := f_jn hf
                      have J144 : ∀ (j144s1 : Int32), K144 j144s1 = some (r, Sr) → GoM G l 4 (TmR G (some (.int r)) 97 Sr 0 0) mX7_lots 144 [(0, .ref a0), (1, .int a1), (3, .long v78), (5, .int l63_5), (6, .int l63_6), (7, .int v89), (9, .int l97_9)] [.int j144s1, .int l97_8] l63S := by
                        intro j144s1 hf
                        rw [eK144] at hf
                        refine Go.iadd 145 rfl dX7_lots_144 ?_
                        obtain ⟨v145, ev145, hf⟩ := f_nm hf
                        refine Go.topi v145 ev145 ?_
                        refine Go.istore 147 [(8, .int v145), (0, .ref a0), (1, .int a1), (3, .long v78), (5, .int l63_5), (6, .int l63_6), (7, .int v89), (9, .int l97_9)] rfl dX7_lots_145 (by decide) rfl ?_
                        refine Go.inc 7 150 (1 : Int32) [(9, .int (l97_9 + (1 : Int32))), (8, .int v145), (0, .ref a0), (1, .int a1), (3, .long v78), (5, .int l63_5), (6, .int l63_6), (7, .int v89)] rfl dX7_lots_147 rfl ci_1 (by decide) rfl ?_
                        refine Go.goto 97 dX7_lots_150 rfl ?_
                        exact Go.sub [2, 3, 4, 5, 6, 7, 1, 0] [(0, .ref a0), (1, .int a1), (3, .long v78), (5, .int l63_5), (6, .int l63_6), (7, .int v89), (8, .int v145), (9, .int (l97_9 + (1 : Int32)))] rfl (ih v145 (l97_9 + (1 : Int32)) hf)
                      clear eK144
                      obtain ⟨K143, eK143, hf⟩ := f_jn hf
                      have J143 : K143 = some (r, Sr) → GoM G l 4 (TmR G (some (.int r)) 97 Sr 0 0) mX7_lots 143 [(0, .ref a0), (1, .int a1), (3, .long v78), (5, .int l63_5), (6, .int l63_6), (7, .int v89), (9, .int l97_9)] [.int l97_8] l63S := by
                        intro hf
                        rw [eK143] at hf
                        refine Go.iconst (0 : Int32) 144 rfl dX7_lots_143 ci_0 ?_
                        exact J144 (0 : Int32) hf
                      clear eK143
                      refine Go.if_eq 143 119 rfl dX7_lots_116 rfl (fun hc => ?_) (fun hc => ?_)
                      · replace hf := f_if hf hc
                        exact Go.sub [0, 1, 2, 3, 4, 5, 7] [(0, .ref a0), (1, .int a1), (3, .long v78), (5, .int l63_5), (6, .int l63_6), (7, .int v89), (9, .int l97_9)] rfl (J143 hf)
                      · replace hf := f_el hf hc
                        refine Go.aload_n 0 120 rfl dX7_lots_119 rfl ?_
                        refine Go.iload 7 122 rfl dX7_lots_120 rfl ?_
                        obtain ⟨r122, er122, hf⟩ := f_bnd hf
                        refine Go.cV 125 [.int l97_9] [.int l97_8] (C_X7_isFreeCard G l n l63S a0 l97_9 r122 ha0 er122) rfl dX7_lots_122 cv_X7_150 ha0 (by decide) (by decide) rfl (Nat.le_of_ble_eq_true rfl) ?_
                        refine Go.if_eq 143 128 rfl dX7_lots_125 rfl (fun hc => ?_) (fun hc => ?_)
                        · replace hf := f_if hf hc
                          exact Go.sub [0, 1, 2, 3, 4, 5, 7] [(0, .ref a0), (1, .int a1), (3, .long v78), (5, .int l63_5), (6, .int l63_6), (7, .int v89), (9, .int l97_9)] rfl (J143 hf)
                        · replace hf := f_el hf hc
                          refine Go.aload_n 0 129 rfl dX7_lots_128 rfl ?_
                          refine Go.iload 5 131 rfl dX7_lots_129 rfl ?_
                          refine Go.iload 7 133 rfl dX7_lots_131 rfl ?_
                          obtain ⟨r133, er133, hf⟩ := f_bnd hf
                          refine Go.cV 136 [.int v89, .int l97_9] [.int l97_8] (C_X7_isFit G l n l63S a0 v89 l97_9 r133 ha0 er133) rfl dX7_lots_133 cv_X7_139 ha0 (by decide) (by decide) rfl (Nat.le_of_ble_eq_true rfl) ?_
                          refine Go.if_eq 143 139 rfl dX7_lots_136 rfl (fun hc => ?_) (fun hc => ?_)
                          · replace hf := f_if hf hc
                            exact Go.sub [0, 1, 2, 3, 4, 5, 7] [(0, .ref a0), (1, .int a1), (3, .long v78), (5, .int l63_5), (6, .int l63_6), (7, .int v89), (9, .int l97_9)] rfl (J143 hf)
                          · replace hf := f_el hf hc
                            refine Go.iconst (1 : Int32) 140 rfl dX7_lots_139 ci_1 ?_
                            refine Go.goto 144 dX7_lots_140 rfl ?_
                            exact Go.sub [0, 1, 2, 3, 4, 5, 7] [(0, .ref a0), (1, .int a1), (3, .long v78), (5, .int l63_5), (6, .int l63_6), (7, .int v89), (9, .int l97_9)] rfl (J144 (1 : Int32) hf)
                exact Go.sub [4, 5, 3, 6, 7, 2, 1, 0] [(0, .ref a0), (1, .int a1), (3, .long v78), (5, .int l63_5), (6, .int l63_6), (7, .int v89), (8, .int (0 : Int32)), (9, .int (0 : Int32))] rfl (L97 n (0 : Int32) (0 : Int32) hf)
          exact Go.sub [3, 4, 2, 1, 0] [(0, .ref a0), (1, .int a1), (3, .long a2.toInt64), (5, .int (0 : Int32)), (6, .int (0 : Int32))] rfl (L63 n a2.toInt64 (0 : Int32) (0 : Int32) S hf)
        · replace hf := f_el hf hc
          refine Go.bipush (-2 : Int32) 53 rfl dX7_lots_51 cb_m2 ?_
          exact Go.irS rfl dX7_lots_53 hf
      · replace hf := f_if hf hc
        refine Go.bipush (-4 : Int32) 37 rfl dX7_lots_35 cb_m4 ?_
        exact Go.irS rfl dX7_lots_37 hf
    · replace hf := f_if hf hc
      refine Go.iconst (-1 : Int32) 25 rfl dX7_lots_24 ci_m1 ?_
      exact Go.irS rfl dX7_lots_25 hf
theorem dX7_asked_0 : decode cX7_asked 0 = .ok (.aload_n 0, 1) := by decide +kernel
theorem dX7_asked_1 : decode cX7_asked 1 = .ok (.getfield 61, 3) := by decide +kernel
theorem dX7_asked_4 : decode cX7_asked 4 = .ok (.ireturn, 1) := by decide +kernel
def F_X7_asked (n : Nat) (S : aSt) (a0 : Nat) : Option Int32 :=
some (S.1 a0 7)
set_option maxHeartbeats 4000000 in
set_option maxRecDepth 100000 in
theorem C_X7_asked (G : aG) (l : Launch) (n : Nat) (S : aSt) (a0 : Nat) (r : Int32) (ha0 : isT a0 6 = true) (hf : F_X7_asked n S a0 = some r) : Ctr G l yX7_asked mX7_asked (rmM 1) 97 97 S [.ref a0] (some (.int r)) S := by
  refine Ctr.of (by decide) rfl rfl (Nat.le_of_ble_eq_true rfl) [(0, .ref a0)] rfl ?_
  unfold F_X7_asked at hf
  refine Go.aload_n 0 1 rfl dX7_asked_0 rfl ?_
  refine Go.getI 4 rfl dX7_asked_1 fl_X7_61 rfl (isT_lt ha0) (isT_sh ha0) ?_
  exact Go.ir rfl dX7_asked_4 hf
theorem dX7_upper_0 : decode cX7_upper 0 = .ok (.aload_n 0, 1) := by decide +kernel
theorem dX7_upper_1 : decode cX7_upper 1 = .ok (.getfield 188, 3) := by decide +kernel
theorem dX7_upper_4 : decode cX7_upper 4 = .ok (.lreturn, 1) := by decide +kernel
def F_X7_upper (n : Nat) (S : aSt) (a0 : Nat) : Option Int64 :=
some (S.2.1 a0 8)
set_option maxHeartbeats 4000000 in
set_option maxRecDepth 100000 in
theorem C_X7_upper (G : aG) (l : Launch) (n : Nat) (S : aSt) (a0 : Nat) (r : Int64) (ha0 : isT a0 6 = true) (hf : F_X7_upper n S a0 = some r) : Ctr G l yX7_upper mX7_upper (rmM 1) 97 97 S [.ref a0] (some (.long r)) S := by
  refine Ctr.of (by decide) rfl rfl (Nat.le_of_ble_eq_true rfl) [(0, .ref a0)] rfl ?_
  unfold F_X7_upper at hf
  refine Go.aload_n 0 1 rfl dX7_upper_0 rfl ?_
  refine Go.getL 4 rfl dX7_upper_1 fl_X7_188 rfl (isT_lt ha0) (isT_sh ha0) ?_
  exact Go.lr rfl dX7_upper_4 hf
theorem dX7_lower_0 : decode cX7_lower 0 = .ok (.aload_n 0, 1) := by decide +kernel
theorem dX7_lower_1 : decode cX7_lower 1 = .ok (.getfield 32, 3) := by decide +kernel
theorem dX7_lower_4 : decode cX7_lower 4 = .ok (.lreturn, 1) := by decide +kernel
def F_X7_lower (n : Nat) (S : aSt) (a0 : Nat) : Option Int64 :=
some (S.2.1 a0 9)
set_option maxHeartbeats 4000000 in
set_option maxRecDepth 100000 in
theorem C_X7_lower (G : aG) (l : Launch) (n : Nat) (S : aSt) (a0 : Nat) (r : Int64) (ha0 : isT a0 6 = true) (hf : F_X7_lower n S a0 = some r) : Ctr G l yX7_lower mX7_lower (rmM 1) 97 97 S [.ref a0] (some (.long r)) S := by
  refine Ctr.of (by decide) rfl rfl (Nat.le_of_ble_eq_true rfl) [(0, .ref a0)] rfl ?_
  unfold F_X7_lower at hf
  refine Go.aload_n 0 1 rfl dX7_lower_0 rfl ?_
  refine Go.getL 4 rfl dX7_lower_1 fl_X7_32 rfl (isT_lt ha0) (isT_sh ha0) ?_
  exact Go.lr rfl dX7_lower_4 hf
theorem dX7_counted_0 : decode cX7_counted 0 = .ok (.iconst 0, 1) := by decide +kernel
theorem dX7_counted_1 : decode cX7_counted 1 = .ok (.istore_n 2, 1) := by decide +kernel
theorem dX7_counted_2 : decode cX7_counted 2 = .ok (.iconst 0, 1) := by decide +kernel
theorem dX7_counted_3 : decode cX7_counted 3 = .ok (.istore_n 3, 1) := by decide +kernel
theorem dX7_counted_4 : decode cX7_counted 4 = .ok (.iload_n 3, 1) := by decide +kernel
theorem dX7_counted_5 : decode cX7_counted 5 = .ok (.aload_n 0, 1) := by decide +kernel
theorem dX7_counted_6 : decode cX7_counted 6 = .ok (.getfield 22, 3) := by decide +kernel
theorem dX7_counted_9 : decode cX7_counted 9 = .ok (.iconst 0, 1) := by decide +kernel
theorem dX7_counted_10 : decode cX7_counted 10 = .ok (.iaload, 1) := by decide +kernel
theorem dX7_counted_11 : decode cX7_counted 11 = .ok (.if_icmp .ge 50, 3) := by decide +kernel
theorem dX7_counted_14 : decode cX7_counted 14 = .ok (.iload_n 2, 1) := by decide +kernel
theorem dX7_counted_15 : decode cX7_counted 15 = .ok (.iload_n 1, 1) := by decide +kernel
theorem dX7_counted_16 : decode cX7_counted 16 = .ok (.iconst 3, 1) := by decide +kernel
theorem dX7_counted_17 : decode cX7_counted 17 = .ok (.if_icmp .ne 11, 3) := by decide +kernel
theorem dX7_counted_20 : decode cX7_counted 20 = .ok (.aload_n 0, 1) := by decide +kernel
theorem dX7_counted_21 : decode cX7_counted 21 = .ok (.iload_n 3, 1) := by decide +kernel
theorem dX7_counted_22 : decode cX7_counted 22 = .ok (.invokevirtual 150, 3) := by decide +kernel
theorem dX7_counted_25 : decode cX7_counted 25 = .ok (.ifCond .ne 23, 3) := by decide +kernel
theorem dX7_counted_28 : decode cX7_counted 28 = .ok (.iload_n 1, 1) := by decide +kernel
theorem dX7_counted_29 : decode cX7_counted 29 = .ok (.iconst 5, 1) := by decide +kernel
theorem dX7_counted_30 : decode cX7_counted 30 = .ok (.if_icmp .ne 22, 3) := by decide +kernel
theorem dX7_counted_33 : decode cX7_counted 33 = .ok (.aload_n 0, 1) := by decide +kernel
theorem dX7_counted_34 : decode cX7_counted 34 = .ok (.getfield 22, 3) := by decide +kernel
theorem dX7_counted_37 : decode cX7_counted 37 = .ok (.iconst 3, 1) := by decide +kernel
theorem dX7_counted_38 : decode cX7_counted 38 = .ok (.iload_n 3, 1) := by decide +kernel
theorem dX7_counted_39 : decode cX7_counted 39 = .ok (.iadd, 1) := by decide +kernel
theorem dX7_counted_40 : decode cX7_counted 40 = .ok (.iaload, 1) := by decide +kernel
theorem dX7_counted_41 : decode cX7_counted 41 = .ok (.iconst 2, 1) := by decide +kernel
theorem dX7_counted_42 : decode cX7_counted 42 = .ok (.invokestatic 116, 3) := by decide +kernel
theorem dX7_counted_45 : decode cX7_counted 45 = .ok (.ifCond .eq 7, 3) := by decide +kernel
theorem dX7_counted_48 : decode cX7_counted 48 = .ok (.iconst 1, 1) := by decide +kernel
theorem dX7_counted_49 : decode cX7_counted 49 = .ok (.goto 4, 3) := by decide +kernel
theorem dX7_counted_52 : decode cX7_counted 52 = .ok (.iconst 0, 1) := by decide +kernel
theorem dX7_counted_53 : decode cX7_counted 53 = .ok (.iadd, 1) := by decide +kernel
theorem dX7_counted_54 : decode cX7_counted 54 = .ok (.istore_n 2, 1) := by decide +kernel
theorem dX7_counted_55 : decode cX7_counted 55 = .ok (.iinc 3 1, 3) := by decide +kernel
theorem dX7_counted_58 : decode cX7_counted 58 = .ok (.goto (-54), 3) := by decide +kernel
theorem dX7_counted_61 : decode cX7_counted 61 = .ok (.iconst 0, 1) := by decide +kernel
theorem dX7_counted_62 : decode cX7_counted 62 = .ok (.istore_n 3, 1) := by decide +kernel
theorem dX7_counted_63 : decode cX7_counted 63 = .ok (.iload_n 3, 1) := by decide +kernel
theorem dX7_counted_64 : decode cX7_counted 64 = .ok (.aload_n 0, 1) := by decide +kernel
theorem dX7_counted_65 : decode cX7_counted 65 = .ok (.getfield 22, 3) := by decide +kernel
theorem dX7_counted_68 : decode cX7_counted 68 = .ok (.iconst 1, 1) := by decide +kernel
theorem dX7_counted_69 : decode cX7_counted 69 = .ok (.iaload, 1) := by decide +kernel
theorem dX7_counted_70 : decode cX7_counted 70 = .ok (.if_icmp .ge 30, 3) := by decide +kernel
theorem dX7_counted_73 : decode cX7_counted 73 = .ok (.iload_n 1, 1) := by decide +kernel
theorem dX7_counted_74 : decode cX7_counted 74 = .ok (.iconst 4, 1) := by decide +kernel
theorem dX7_counted_75 : decode cX7_counted 75 = .ok (.if_icmp .ne 25, 3) := by decide +kernel
theorem dX7_counted_78 : decode cX7_counted 78 = .ok (.iload_n 2, 1) := by decide +kernel
theorem dX7_counted_79 : decode cX7_counted 79 = .ok (.aload_n 0, 1) := by decide +kernel
theorem dX7_counted_80 : decode cX7_counted 80 = .ok (.iload_n 3, 1) := by decide +kernel
theorem dX7_counted_81 : decode cX7_counted 81 = .ok (.invokevirtual 147, 3) := by decide +kernel
theorem dX7_counted_84 : decode cX7_counted 84 = .ok (.ifCond .eq 7, 3) := by decide +kernel
theorem dX7_counted_87 : decode cX7_counted 87 = .ok (.iconst 1, 1) := by decide +kernel
theorem dX7_counted_88 : decode cX7_counted 88 = .ok (.goto 4, 3) := by decide +kernel
theorem dX7_counted_91 : decode cX7_counted 91 = .ok (.iconst 0, 1) := by decide +kernel
theorem dX7_counted_92 : decode cX7_counted 92 = .ok (.iadd, 1) := by decide +kernel
theorem dX7_counted_93 : decode cX7_counted 93 = .ok (.istore_n 2, 1) := by decide +kernel
theorem dX7_counted_94 : decode cX7_counted 94 = .ok (.iinc 3 1, 3) := by decide +kernel
theorem dX7_counted_97 : decode cX7_counted 97 = .ok (.goto (-34), 3) := by decide +kernel
theorem dX7_counted_100 : decode cX7_counted 100 = .ok (.iconst 0, 1) := by decide +kernel
theorem dX7_counted_101 : decode cX7_counted 101 = .ok (.istore_n 3, 1) := by decide +kernel
theorem dX7_counted_102 : decode cX7_counted 102 = .ok (.iload_n 3, 1) := by decide +kernel
theorem dX7_counted_103 : decode cX7_counted 103 = .ok (.bipush 6, 2) := by decide +kernel
theorem dX7_counted_105 : decode cX7_counted 105 = .ok (.if_icmp .ge 32, 3) := by decide +kernel
theorem dX7_counted_108 : decode cX7_counted 108 = .ok (.iload_n 1, 1) := by decide +kernel
theorem dX7_counted_109 : decode cX7_counted 109 = .ok (.bipush 6, 2) := by decide +kernel
theorem dX7_counted_111 : decode cX7_counted 111 = .ok (.if_icmp .ne 26, 3) := by decide +kernel
theorem dX7_counted_114 : decode cX7_counted 114 = .ok (.iload_n 2, 1) := by decide +kernel
theorem dX7_counted_115 : decode cX7_counted 115 = .ok (.aload_n 0, 1) := by decide +kernel
theorem dX7_counted_116 : decode cX7_counted 116 = .ok (.getfield 7, 3) := by decide +kernel
theorem dX7_counted_119 : decode cX7_counted 119 = .ok (.iload_n 3, 1) := by decide +kernel
theorem dX7_counted_120 : decode cX7_counted 120 = .ok (.iaload, 1) := by decide +kernel
theorem dX7_counted_121 : decode cX7_counted 121 = .ok (.ifCond .ge 7, 3) := by decide +kernel
theorem dX7_counted_124 : decode cX7_counted 124 = .ok (.iconst 0, 1) := by decide +kernel
theorem dX7_counted_125 : decode cX7_counted 125 = .ok (.goto 4, 3) := by decide +kernel
theorem dX7_counted_128 : decode cX7_counted 128 = .ok (.iconst 1, 1) := by decide +kernel
theorem dX7_counted_129 : decode cX7_counted 129 = .ok (.iadd, 1) := by decide +kernel
theorem dX7_counted_130 : decode cX7_counted 130 = .ok (.istore_n 2, 1) := by decide +kernel
theorem dX7_counted_131 : decode cX7_counted 131 = .ok (.iinc 3 1, 3) := by decide +kernel
theorem dX7_counted_134 : decode cX7_counted 134 = .ok (.goto (-32), 3) := by decide +kernel
theorem dX7_counted_137 : decode cX7_counted 137 = .ok (.iconst 0, 1) := by decide +kernel
theorem dX7_counted_138 : decode cX7_counted 138 = .ok (.istore_n 3, 1) := by decide +kernel
theorem dX7_counted_139 : decode cX7_counted 139 = .ok (.iload_n 3, 1) := by decide +kernel
theorem dX7_counted_140 : decode cX7_counted 140 = .ok (.iconst 4, 1) := by decide +kernel
theorem dX7_counted_141 : decode cX7_counted 141 = .ok (.if_icmp .ge 32, 3) := by decide +kernel
theorem dX7_counted_144 : decode cX7_counted 144 = .ok (.iload_n 1, 1) := by decide +kernel
theorem dX7_counted_145 : decode cX7_counted 145 = .ok (.bipush 7, 2) := by decide +kernel
theorem dX7_counted_147 : decode cX7_counted 147 = .ok (.if_icmp .ne 26, 3) := by decide +kernel
theorem dX7_counted_150 : decode cX7_counted 150 = .ok (.iload_n 2, 1) := by decide +kernel
theorem dX7_counted_151 : decode cX7_counted 151 = .ok (.aload_n 0, 1) := by decide +kernel
theorem dX7_counted_152 : decode cX7_counted 152 = .ok (.getfield 16, 3) := by decide +kernel
theorem dX7_counted_155 : decode cX7_counted 155 = .ok (.iload_n 3, 1) := by decide +kernel
theorem dX7_counted_156 : decode cX7_counted 156 = .ok (.iaload, 1) := by decide +kernel
theorem dX7_counted_157 : decode cX7_counted 157 = .ok (.ifCond .ge 7, 3) := by decide +kernel
theorem dX7_counted_160 : decode cX7_counted 160 = .ok (.iconst 0, 1) := by decide +kernel
theorem dX7_counted_161 : decode cX7_counted 161 = .ok (.goto 4, 3) := by decide +kernel
theorem dX7_counted_164 : decode cX7_counted 164 = .ok (.iconst 1, 1) := by decide +kernel
theorem dX7_counted_165 : decode cX7_counted 165 = .ok (.iadd, 1) := by decide +kernel
theorem dX7_counted_166 : decode cX7_counted 166 = .ok (.istore_n 2, 1) := by decide +kernel
theorem dX7_counted_167 : decode cX7_counted 167 = .ok (.iinc 3 1, 3) := by decide +kernel
theorem dX7_counted_170 : decode cX7_counted 170 = .ok (.goto (-31), 3) := by decide +kernel
theorem dX7_counted_173 : decode cX7_counted 173 = .ok (.iconst 0, 1) := by decide +kernel
theorem dX7_counted_174 : decode cX7_counted 174 = .ok (.istore_n 3, 1) := by decide +kernel
theorem dX7_counted_175 : decode cX7_counted 175 = .ok (.iload_n 3, 1) := by decide +kernel
theorem dX7_counted_176 : decode cX7_counted 176 = .ok (.iconst 3, 1) := by decide +kernel
theorem dX7_counted_177 : decode cX7_counted 177 = .ok (.if_icmp .ge 32, 3) := by decide +kernel
theorem dX7_counted_180 : decode cX7_counted 180 = .ok (.iload_n 1, 1) := by decide +kernel
theorem dX7_counted_181 : decode cX7_counted 181 = .ok (.bipush 8, 2) := by decide +kernel
theorem dX7_counted_183 : decode cX7_counted 183 = .ok (.if_icmp .ne 26, 3) := by decide +kernel
theorem dX7_counted_186 : decode cX7_counted 186 = .ok (.iload_n 2, 1) := by decide +kernel
theorem dX7_counted_187 : decode cX7_counted 187 = .ok (.aload_n 0, 1) := by decide +kernel
theorem dX7_counted_188 : decode cX7_counted 188 = .ok (.getfield 28, 3) := by decide +kernel
theorem dX7_counted_191 : decode cX7_counted 191 = .ok (.iload_n 3, 1) := by decide +kernel
theorem dX7_counted_192 : decode cX7_counted 192 = .ok (.baload, 1) := by decide +kernel
theorem dX7_counted_193 : decode cX7_counted 193 = .ok (.ifCond .eq 7, 3) := by decide +kernel
theorem dX7_counted_196 : decode cX7_counted 196 = .ok (.iconst 1, 1) := by decide +kernel
theorem dX7_counted_197 : decode cX7_counted 197 = .ok (.goto 4, 3) := by decide +kernel
theorem dX7_counted_200 : decode cX7_counted 200 = .ok (.iconst 0, 1) := by decide +kernel
theorem dX7_counted_201 : decode cX7_counted 201 = .ok (.iadd, 1) := by decide +kernel
theorem dX7_counted_202 : decode cX7_counted 202 = .ok (.istore_n 2, 1) := by decide +kernel
theorem dX7_counted_203 : decode cX7_counted 203 = .ok (.iinc 3 1, 3) := by decide +kernel
theorem dX7_counted_206 : decode cX7_counted 206 = .ok (.goto (-31), 3) := by decide +kernel
theorem dX7_counted_209 : decode cX7_counted 209 = .ok (.iload_n 1, 1) := by decide +kernel
theorem dX7_counted_210 : decode cX7_counted 210 = .ok (.iconst 3, 1) := by decide +kernel
theorem dX7_counted_211 : decode cX7_counted 211 = .ok (.if_icmp .ge 12, 3) := by decide +kernel
theorem dX7_counted_214 : decode cX7_counted 214 = .ok (.aload_n 0, 1) := by decide +kernel
theorem dX7_counted_215 : decode cX7_counted 215 = .ok (.getfield 22, 3) := by decide +kernel
theorem dX7_counted_218 : decode cX7_counted 218 = .ok (.iload_n 1, 1) := by decide +kernel
theorem dX7_counted_219 : decode cX7_counted 219 = .ok (.iaload, 1) := by decide +kernel
theorem dX7_counted_220 : decode cX7_counted 220 = .ok (.goto 4, 3) := by decide +kernel
theorem dX7_counted_223 : decode cX7_counted 223 = .ok (.iload_n 2, 1) := by decide +kernel
theorem dX7_counted_224 : decode cX7_counted 224 = .ok (.ireturn, 1) := by decide +kernel
def F_X7_counted_L175 (S : aSt) (a0 : Nat) (a1 : Int32) (K209 : Int32 → Option Int32) : Nat → Int32 → Int32 → Option Int32
  | 0, _, _ => none
  | fu + 1, l175_2, l175_3 =>
    if (3 : Int32) ≤ l175_3 then (K209 l175_2) else
    if a1 = (8 : Int32) then (rfd (S.2.2 a0 6) 8 fun k188 =>
    grd (inb l175_3 (SH k188).2) <|
    jn (fun (j201s1 : Int32) => (nm (l175_2 + j201s1) fun v202 =>
    F_X7_counted_L175 S a0 a1 K209 fu v202 (l175_3 + (1 : Int32)) : Option Int32)) fun K201 =>
    if (S.1 k188 l175_3.toNatClampNeg) = 0 then (K201 (0 : Int32)) else
    K201 (1 : Int32)) else
    K209 l175_2
def F_X7_counted_L139 (S : aSt) (a0 : Nat) (a1 : Int32) (K173 : Int32 → Option Int32) : Nat → Int32 → Int32 → Option Int32
  | 0, _, _ => none
  | fu + 1, l139_2, l139_3 =>
    if (4 : Int32) ≤ l139_3 then (K173 l139_2) else
    if a1 = (7 : Int32) then (rfd (S.2.2 a0 2) 7 fun k152 =>
    grd (inb l139_3 (SH k152).2) <|
    jn (fun (j165s1 : Int32) => (nm (l139_2 + j165s1) fun v166 =>
    F_X7_counted_L139 S a0 a1 K173 fu v166 (l139_3 + (1 : Int32)) : Option Int32)) fun K165 =>
    if 0 ≤ (S.1 k152 l139_3.toNatClampNeg) then (K165 (1 : Int32)) else
    K165 (0 : Int32)) else
    K173 l139_2
def F_X7_counted_L102 (S : aSt) (a0 : Nat) (a1 : Int32) (K137 : Int32 → Option Int32) : Nat → Int32 → Int32 → Option Int32
  | 0, _, _ => none
  | fu + 1, l102_2, l102_3 =>
    if (6 : Int32) ≤ l102_3 then (K137 l102_2) else
    if a1 = (6 : Int32) then (rfd (S.2.2 a0 0) 7 fun k116 =>
    grd (inb l102_3 (SH k116).2) <|
    jn (fun (j129s1 : Int32) => (nm (l102_2 + j129s1) fun v130 =>
    F_X7_counted_L102 S a0 a1 K137 fu v130 (l102_3 + (1 : Int32)) : Option Int32)) fun K129 =>
    if 0 ≤ (S.1 k116 l102_3.toNatClampNeg) then (K129 (1 : Int32)) else
    K129 (0 : Int32)) else
    K137 l102_2
def F_X7_counted_L63 (n : Nat) (S : aSt) (a0 : Nat) (a1 : Int32) (K100 : Int32 → Option Int32) : Nat → Int32 → Int32 → Option Int32
  | 0, _, _ => none
  | fu + 1, l63_2, l63_3 =>
    rfd (S.2.2 a0 4) 7 fun k65 =>
    grd (inb (1 : Int32) (SH k65).2) <|
    if (S.1 k65 (1 : Int32).toNatClampNeg) ≤ l63_3 then (K100 l63_2) else
    if a1 = (4 : Int32) then ((F_X7_isFree n S a0 l63_3).bind fun r81 =>
    jn (fun (j92s1 : Int32) => (nm (l63_2 + j92s1) fun v93 =>
    F_X7_counted_L63 n S a0 a1 K100 fu v93 (l63_3 + (1 : Int32)) : Option Int32)) fun K92 =>
    if r81 = 0 then (K92 (0 : Int32)) else
    K92 (1 : Int32)) else
    K100 l63_2
def F_X7_counted_L4 (n : Nat) (S : aSt) (a0 : Nat) (a1 : Int32) (K61 : Int32 → Option Int32) : Nat → Int32 → Int32 → Option Int32
  | 0, _, _ => none
  | fu + 1, l4_2, l4_3 =>
    rfd (S.2.2 a0 4) 7 fun k6 =>
    grd (inb (0 : Int32) (SH k6).2) <|
    if (S.1 k6 (0 : Int32).toNatClampNeg) ≤ l4_3 then (K61 l4_2) else
    jn (fun (j53s1 : Int32) => (nm (l4_2 + j53s1) fun v54 =>
    F_X7_counted_L4 n S a0 a1 K61 fu v54 (l4_3 + (1 : Int32)) : Option Int32)) fun K53 =>
    jn ((K53 (1 : Int32) : Option Int32)) fun K48 =>
    jn ((jn ((K53 (0 : Int32) : Option Int32)) fun K52 =>
    if a1 = (5 : Int32) then (grd (inb ((3 : Int32) + l4_3) (SH k6).2) <|
    (F_X7_isOf n S (S.1 k6 ((3 : Int32) + l4_3).toNatClampNeg) (2 : Int32)).bind fun r42 =>
    if r42 = 0 then (K52) else
    K48) else
    K52 : Option Int32)) fun K28 =>
    if a1 = (3 : Int32) then ((F_X7_isFreeCard n S a0 l4_3).bind fun r22 =>
    if r22 = 0 then (K28) else
    K48) else
    K28
def F_X7_counted (n : Nat) (S : aSt) (a0 : Nat) (a1 : Int32) : Option Int32 :=
jn (fun (x61_2 : Int32) => (jn (fun (x100_2 : Int32) => (jn (fun (x137_2 : Int32) => (jn (fun (x173_2 : Int32) => (jn (fun (x209_2 : Int32) => (if (3 : Int32) ≤ a1 then (some x209_2) else
rfd (S.2.2 a0 4) 7 fun k215 =>
grd (inb a1 (SH k215).2) <|
some (S.1 k215 a1.toNatClampNeg) : Option Int32)) fun K209 =>
F_X7_counted_L175 S a0 a1 K209 n x173_2 (0 : Int32) : Option Int32)) fun K173 =>
F_X7_counted_L139 S a0 a1 K173 n x137_2 (0 : Int32) : Option Int32)) fun K137 =>
F_X7_counted_L102 S a0 a1 K137 n x100_2 (0 : Int32) : Option Int32)) fun K100 =>
F_X7_counted_L63 n S a0 a1 K100 n x61_2 (0 : Int32) : Option Int32)) fun K61 =>
F_X7_counted_L4 n S a0 a1 K61 n (0 : Int32) (0 : Int32)
set_option maxHeartbeats 4000000 in
set_option maxRecDepth 100000 in
theorem C_X7_counted (G : aG) (l : Launch) (n : Nat) (S : aSt) (a0 : Nat) (a1 : Int32) (r : Int32) (ha0 : isT a0 6 = true) (hf : F_X7_counted n S a0 a1 = some r) : Ctr G l yX7_counted mX7_counted (rmM 3) 97 97 S [.ref a0, .int a1] (some (.int r)) S := by
  refine Ctr.of (by decide) rfl rfl (Nat.le_of_ble_eq_true rfl) [(0, .ref a0), (1, .int a1)] rfl ?_
  unfold F_X7_counted at hf
  refine Go.iconst (0 : Int32) 1 rfl dX7_counted_0 ci_0 ?_
  refine Go.istore_n 2 [(2, .int (0 : Int32)), (0, .ref a0), (1, .int a1)] rfl dX7_counted_1 (by decide) rfl ?_
  refine Go.iconst (0 : Int32) 3 rfl dX7_counted_2 ci_0 ?_
  refine Go.istore_n 4 [(3, .int (0 : Int32)), (2, .int (0 : Int32)), (0, .ref a0), (1, .int a1)] rfl dX7_counted_3 (by decide) rfl ?_
  obtain ⟨K61, eK61, hf⟩ := f_jn hf
  have J61 : ∀ (x61_2 : Int32), K61 x61_2 = some r → GoM G l 3 (TmR G (some (.int r)) 97 S 0 0) mX7_counted 61 [(0, .ref a0), (1, .int a1), (2, .int x61_2)] [] S := by
    intro x61_2 hf
    rw [eK61] at hf
    refine Go.iconst (0 : Int32) 62 rfl dX7_counted_61 ci_0 ?_
    refine Go.istore_n 63 [(3, .int (0 : Int32)), (0, .ref a0), (1, .int a1), (2, .int x61_2)] rfl dX7_counted_62 (by decide) rfl ?_
    obtain ⟨K100, eK100, hf⟩ := f_jn hf
    have J100 : ∀ (x100_2 : Int32), K100 x100_2 = some r → GoM G l 3 (TmR G (some (.int r)) 97 S 0 0) mX7_counted 100 [(0, .ref a0), (1, .int a1), (2, .int x100_2)] [] S := by
      intro x100_2 hf
      rw [eK100] at hf
      refine Go.iconst (0 : Int32) 101 rfl dX7_counted_100 ci_0 ?_
      refine Go.istore_n 102 [(3, .int (0 : Int32)), (0, .ref a0), (1, .int a1), (2, .int x100_2)] rfl dX7_counted_101 (by decide) rfl ?_
      obtain ⟨K137, eK137, hf⟩ := f_jn hf
      have J137 : ∀ (x137_2 : Int32), K137 x137_2 = some r → GoM G l 3 (TmR G (some (.int r)) 97 S 0 0) mX7_counted 137 [(0, .ref a0), (1, .int a1), (2, .int x137_2)] [] S := by
        intro x137_2 hf
        rw [eK137] at hf
        refine Go.iconst (0 : Int32) 138 rfl dX7_counted_137 ci_0 ?_
        refine Go.istore_n 139 [(3, .int (0 : Int32)), (0, .ref a0), (1, .int a1), (2, .int x137_2)] rfl dX7_counted_138 (by decide) rfl ?_
        obtain ⟨K173, eK173, hf⟩ := f_jn hf
        have J173 : ∀ (x173_2 : Int32), K173 x173_2 = some r → GoM G l 3 (TmR G (some (.int r)) 97 S 0 0) mX7_counted 173 [(0, .ref a0), (1, .int a1), (2, .int x173_2)] [] S := by
          intro x173_2 hf
          rw [eK173] at hf
          refine Go.iconst (0 : Int32) 174 rfl dX7_counted_173 ci_0 ?_
          refine Go.istore_n 175 [(3, .int (0 : Int32)), (0, .ref a0), (1, .int a1), (2, .int x173_2)] rfl dX7_counted_174 (by decide) rfl ?_
          obtain ⟨K209, eK209, hf⟩ := f_jn hf
          have J209 : ∀ (x209_2 : Int32), K209 x209_2 = some r → GoM G l 3 (TmR G (some (.int r)) 97 S 0 0) mX7_counted 209 [(0, .ref a0), (1, .int a1), (2, .int x209_2)] [] S := by
            intro x209_2 hf
            rw [eK209] at hf
            refine Go.iload_n 1 210 rfl dX7_counted_209 rfl ?_
            refine Go.iconst (3 : Int32) 211 rfl dX7_counted_210 ci_3 ?_
            refine Go.icmp_ge 223 214 rfl dX7_counted_211 rfl (fun hc => ?_) (fun hc => ?_)
            · replace hf := f_if hf hc
              refine Go.iload_n 2 224 rfl dX7_counted_223 rfl ?_
              exact Go.ir rfl dX7_counted_224 hf
            · replace hf := f_el hf hc
              refine Go.aload_n 0 215 rfl dX7_counted_214 rfl ?_
              obtain ⟨k215, qk215, hk215, hf⟩ := f_rfd hf
              refine Go.getR 218 rfl dX7_counted_215 fl_X7_22 rfl (isT_lt ha0) (isT_sh ha0) qk215 ?_
              refine Go.iload_n 1 219 rfl dX7_counted_218 rfl ?_
              obtain ⟨g219, hf⟩ := f_grd hf
              refine Go.iald 220 rfl dX7_counted_219 (isT_lt hk215) (isT_sh hk215) g219 ?_
              refine Go.goto 224 dX7_counted_220 rfl ?_
              exact Go.ir rfl dX7_counted_224 hf
          clear eK209
          have L175 : ∀ (fu : Nat) (l175_2 : Int32) (l175_3 : Int32), F_X7_counted_L175 S a0 a1 K209 fu l175_2 l175_3 = some r → GoM G l 3 (TmR G (some (.int r)) 97 S 0 0) mX7_counted 175 [(0, .ref a0), (1, .int a1), (2, .int l175_2), (3, .int l175_3)] [] S := by
            intro fu
            induction fu with
            | zero => intro l175_2 l175_3 hf; rw [F_X7_counted_L175] at hf; cases hf
            | succ fu ih =>
              intro l175_2 l175_3 hf
              rw [F_X7_counted_L175] at hf
              refine Go.iload_n 3 176 rfl dX7_counted_175 rfl ?_
              refine Go.iconst (3 : Int32) 177 rfl dX7_counted_176 ci_3 ?_
              refine Go.icmp_ge 209 180 rfl dX7_counted_177 rfl (fun hc => ?_) (fun hc => ?_)
              · replace hf := f_if hf hc
                exact Go.sub [0, 1, 2] [(0, .ref a0), (1, .int a1), (2, .int l175_2)] rfl (J209 l175_2 hf)
              · replace hf := f_el hf hc
                refine Go.iload_n 1 181 rfl dX7_counted_180 rfl ?_
                refine Go.bipush (8 : Int32) 183 rfl dX7_counted_181 cb_8 ?_
                refine Go.icmp_ne 209 186 rfl dX7_counted_183 rfl (fun hc => ?_) (fun hc => ?_)
                · replace hf := f_el hf hc
                  exact Go.sub [0, 1, 2] [(0, .ref a0), (1, .int a1), (2, .int l175_2)] rfl (J209 l175_2 hf)
                · replace hf := f_if hf hc
                  refine Go.iload_n 2 187 rfl dX7_counted_186 rfl ?_
                  refine Go.aload_n 0 188 rfl dX7_counted_187 rfl ?_
                  obtain ⟨k188, qk188, hk188, hf⟩ := f_rfd hf
                  refine Go.getR 191 rfl dX7_counted_188 fl_X7_28 rfl (isT_lt ha0) (isT_sh ha0) qk188 ?_
                  refine Go.iload_n 3 192 rfl dX7_counted_191 rfl ?_
                  obtain ⟨g192, hf⟩ := f_grd hf
                  refine Go.zald 193 rfl dX7_counted_192 (isT_lt hk188) (isT_sh hk188) g192 ?_
                  obtain ⟨K201, eK201, hf⟩ := f_jn hf
                  have J201 : ∀ (j201s1 : Int32), K201 j201s1 = some r → GoM G l 3 (TmR G (some (.int r)) 97 S 0 0) mX7_counted 201 [(0, .ref a0), (1, .int a1), (3, .int l175_3)] [.int j201s1, .int l175_2] S := by
                    intro j201s1 hf
                    rw [eK201] at hf
                    refine Go.iadd 202 rfl dX7_counted_201 ?_
                    obtain ⟨v202, ev202, hf⟩ := f_nm hf
                    refine Go.topi v202 ev202 ?_
                    refine Go.istore_n 203 [(2, .int v202), (0, .ref a0), (1, .int a1), (3, .int l175_3)] rfl dX7_counted_202 (by decide) rfl ?_
                    refine Go.inc 3 206 (1 : Int32) [(3, .int (l175_3 + (1 : Int32))), (2, .int v202), (0, .ref a0), (1, .int a1)] rfl dX7_counted_203 rfl ci_1 (by decide) rfl ?_
                    refine Go.goto 175 dX7_counted_206 rfl ?_
                    exact Go.sub [2, 3, 1, 0] [(0, .ref a0), (1, .int a1), (2, .int v202), (3, .int (l175_3 + (1 : Int32)))] rfl (ih v202 (l175_3 + (1 : Int32)) hf)
                  clear eK201
                  refine Go.if_eq 200 196 rfl dX7_counted_193 rfl (fun hc => ?_) (fun hc => ?_)
                  · replace hf := f_if hf hc
                    refine Go.iconst (0 : Int32) 201 rfl dX7_counted_200 ci_0 ?_
                    exact Go.sub [0, 1, 3] [(0, .ref a0), (1, .int a1), (3, .int l175_3)] rfl (J201 (0 : Int32) hf)
                  · replace hf := f_el hf hc
                    refine Go.iconst (1 : Int32) 197 rfl dX7_counted_196 ci_1 ?_
                    refine Go.goto 201 dX7_counted_197 rfl ?_
                    exact Go.sub [0, 1, 3] [(0, .ref a0), (1, .int a1), (3, .int l175_3)] rfl (J201 (1 : Int32) hf)
          exact Go.sub [1, 2, 3, 0] [(0, .ref a0), (1, .int a1), (2, .int x173_2), (3, .int (0 : Int32))] rfl (L175 n x173_2 (0 : Int32) hf)
        clear eK173
        have L139 : ∀ (fu : Nat) (l139_2 : Int32) (l139_3 : Int32), F_X7_counted_L139 S a0 a1 K173 fu l139_2 l139_3 = some r → GoM G l 3 (TmR G (some (.int r)) 97 S 0 0) mX7_counted 139 [(0, .ref a0), (1, .int a1), (2, .int l139_2), (3, .int l139_3)] [] S := by
          intro fu
          induction fu with
          | zero => intro l139_2 l139_3 hf; rw [F_X7_counted_L139] at hf; cases hf
          | succ fu ih =>
            intro l139_2 l139_3 hf
            rw [F_X7_counted_L139] at hf
            refine Go.iload_n 3 140 rfl dX7_counted_139 rfl ?_
            refine Go.iconst (4 : Int32) 141 rfl dX7_counted_140 ci_4 ?_
            refine Go.icmp_ge 173 144 rfl dX7_counted_141 rfl (fun hc => ?_) (fun hc => ?_)
            · replace hf := f_if hf hc
              exact Go.sub [0, 1, 2] [(0, .ref a0), (1, .int a1), (2, .int l139_2)] rfl (J173 l139_2 hf)
            · replace hf := f_el hf hc
              refine Go.iload_n 1 145 rfl dX7_counted_144 rfl ?_
              refine Go.bipush (7 : Int32) 147 rfl dX7_counted_145 cb_7 ?_
              refine Go.icmp_ne 173 150 rfl dX7_counted_147 rfl (fun hc => ?_) (fun hc => ?_)
              · replace hf := f_el hf hc
                exact Go.sub [0, 1, 2] [(0, .ref a0), (1, .int a1), (2, .int l139_2)] rfl (J173 l139_2 hf)
              · replace hf := f_if hf hc
                refine Go.iload_n 2 151 rfl dX7_counted_150 rfl ?_
                refine Go.aload_n 0 152 rfl dX7_counted_151 rfl ?_
                obtain ⟨k152, qk152, hk152, hf⟩ := f_rfd hf
                refine Go.getR 155 rfl dX7_counted_152 fl_X7_16 rfl (isT_lt ha0) (isT_sh ha0) qk152 ?_
                refine Go.iload_n 3 156 rfl dX7_counted_155 rfl ?_
                obtain ⟨g156, hf⟩ := f_grd hf
                refine Go.iald 157 rfl dX7_counted_156 (isT_lt hk152) (isT_sh hk152) g156 ?_
                obtain ⟨K165, eK165, hf⟩ := f_jn hf
                have J165 : ∀ (j165s1 : Int32), K165 j165s1 = some r → GoM G l 3 (TmR G (some (.int r)) 97 S 0 0) mX7_counted 165 [(0, .ref a0), (1, .int a1), (3, .int l139_3)] [.int j165s1, .int l139_2] S := by
                  intro j165s1 hf
                  rw [eK165] at hf
                  refine Go.iadd 166 rfl dX7_counted_165 ?_
                  obtain ⟨v166, ev166, hf⟩ := f_nm hf
                  refine Go.topi v166 ev166 ?_
                  refine Go.istore_n 167 [(2, .int v166), (0, .ref a0), (1, .int a1), (3, .int l139_3)] rfl dX7_counted_166 (by decide) rfl ?_
                  refine Go.inc 3 170 (1 : Int32) [(3, .int (l139_3 + (1 : Int32))), (2, .int v166), (0, .ref a0), (1, .int a1)] rfl dX7_counted_167 rfl ci_1 (by decide) rfl ?_
                  refine Go.goto 139 dX7_counted_170 rfl ?_
                  exact Go.sub [2, 3, 1, 0] [(0, .ref a0), (1, .int a1), (2, .int v166), (3, .int (l139_3 + (1 : Int32)))] rfl (ih v166 (l139_3 + (1 : Int32)) hf)
                clear eK165
                refine Go.if_ge 164 160 rfl dX7_counted_157 rfl (fun hc => ?_) (fun hc => ?_)
                · replace hf := f_if hf hc
                  refine Go.iconst (1 : Int32) 165 rfl dX7_counted_164 ci_1 ?_
                  exact Go.sub [0, 1, 3] [(0, .ref a0), (1, .int a1), (3, .int l139_3)] rfl (J165 (1 : Int32) hf)
                · replace hf := f_el hf hc
                  refine Go.iconst (0 : Int32) 161 rfl dX7_counted_160 ci_0 ?_
                  refine Go.goto 165 dX7_counted_161 rfl ?_
                  exact Go.sub [0, 1, 3] [(0, .ref a0), (1, .int a1), (3, .int l139_3)] rfl (J165 (0 : Int32) hf)
        exact Go.sub [1, 2, 3, 0] [(0, .ref a0), (1, .int a1), (2, .int x137_2), (3, .int (0 : Int32))] rfl (L139 n x137_2 (0 : Int32) hf)
      clear eK137
      have L102 : ∀ (fu : Nat) (l102_2 : Int32) (l102_3 : Int32), F_X7_counted_L102 S a0 a1 K137 fu l102_2 l102_3 = some r → GoM G l 3 (TmR G (some (.int r)) 97 S 0 0) mX7_counted 102 [(0, .ref a0), (1, .int a1), (2, .int l102_2), (3, .int l102_3)] [] S := by
        intro fu
        induction fu with
        | zero => intro l102_2 l102_3 hf; rw [F_X7_counted_L102] at hf; cases hf
        | succ fu ih =>
          intro l102_2 l102_3 hf
          rw [F_X7_counted_L102] at hf
          refine Go.iload_n 3 103 rfl dX7_counted_102 rfl ?_
          refine Go.bipush (6 : Int32) 105 rfl dX7_counted_103 cb_6 ?_
          refine Go.icmp_ge 137 108 rfl dX7_counted_105 rfl (fun hc => ?_) (fun hc => ?_)
          · replace hf := f_if hf hc
            exact Go.sub [0, 1, 2] [(0, .ref a0), (1, .int a1), (2, .int l102_2)] rfl (J137 l102_2 hf)
          · replace hf := f_el hf hc
            refine Go.iload_n 1 109 rfl dX7_counted_108 rfl ?_
            refine Go.bipush (6 : Int32) 111 rfl dX7_counted_109 cb_6 ?_
            refine Go.icmp_ne 137 114 rfl dX7_counted_111 rfl (fun hc => ?_) (fun hc => ?_)
            · replace hf := f_el hf hc
              exact Go.sub [0, 1, 2] [(0, .ref a0), (1, .int a1), (2, .int l102_2)] rfl (J137 l102_2 hf)
            · replace hf := f_if hf hc
              refine Go.iload_n 2 115 rfl dX7_counted_114 rfl ?_
              refine Go.aload_n 0 116 rfl dX7_counted_115 rfl ?_
              obtain ⟨k116, qk116, hk116, hf⟩ := f_rfd hf
              refine Go.getR 119 rfl dX7_counted_116 fl_X7_7 rfl (isT_lt ha0) (isT_sh ha0) qk116 ?_
              refine Go.iload_n 3 120 rfl dX7_counted_119 rfl ?_
              obtain ⟨g120, hf⟩ := f_grd hf
              refine Go.iald 121 rfl dX7_counted_120 (isT_lt hk116) (isT_sh hk116) g120 ?_
              obtain ⟨K129, eK129, hf⟩ := f_jn hf
              have J129 : ∀ (j129s1 : Int32), K129 j129s1 = some r → GoM G l 3 (TmR G (some (.int r)) 97 S 0 0) mX7_counted 129 [(0, .ref a0), (1, .int a1), (3, .int l102_3)] [.int j129s1, .int l102_2] S := by
                intro j129s1 hf
                rw [eK129] at hf
                refine Go.iadd 130 rfl dX7_counted_129 ?_
                obtain ⟨v130, ev130, hf⟩ := f_nm hf
                refine Go.topi v130 ev130 ?_
                refine Go.istore_n 131 [(2, .int v130), (0, .ref a0), (1, .int a1), (3, .int l102_3)] rfl dX7_counted_130 (by decide) rfl ?_
                refine Go.inc 3 134 (1 : Int32) [(3, .int (l102_3 + (1 : Int32))), (2, .int v130), (0, .ref a0), (1, .int a1)] rfl dX7_counted_131 rfl ci_1 (by decide) rfl ?_
                refine Go.goto 102 dX7_counted_134 rfl ?_
                exact Go.sub [2, 3, 1, 0] [(0, .ref a0), (1, .int a1), (2, .int v130), (3, .int (l102_3 + (1 : Int32)))] rfl (ih v130 (l102_3 + (1 : Int32)) hf)
              clear eK129
              refine Go.if_ge 128 124 rfl dX7_counted_121 rfl (fun hc => ?_) (fun hc => ?_)
              · replace hf := f_if hf hc
                refine Go.iconst (1 : Int32) 129 rfl dX7_counted_128 ci_1 ?_
                exact Go.sub [0, 1, 3] [(0, .ref a0), (1, .int a1), (3, .int l102_3)] rfl (J129 (1 : Int32) hf)
              · replace hf := f_el hf hc
                refine Go.iconst (0 : Int32) 125 rfl dX7_counted_124 ci_0 ?_
                refine Go.goto 129 dX7_counted_125 rfl ?_
                exact Go.sub [0, 1, 3] [(0, .ref a0), (1, .int a1), (3, .int l102_3)] rfl (J129 (0 : Int32) hf)
      exact Go.sub [1, 2, 3, 0] [(0, .ref a0), (1, .int a1), (2, .int x100_2), (3, .int (0 : Int32))] rfl (L102 n x100_2 (0 : Int32) hf)
    clear eK100
    have L63 : ∀ (fu : Nat) (l63_2 : Int32) (l63_3 : Int32), F_X7_counted_L63 n S a0 a1 K100 fu l63_2 l63_3 = some r → GoM G l 3 (TmR G (some (.int r)) 97 S 0 0) mX7_counted 63 [(0, .ref a0), (1, .int a1), (2, .int l63_2), (3, .int l63_3)] [] S := by
      intro fu
      induction fu with
      | zero => intro l63_2 l63_3 hf; rw [F_X7_counted_L63] at hf; cases hf
      | succ fu ih =>
        intro l63_2 l63_3 hf
        rw [F_X7_counted_L63] at hf
        refine Go.iload_n 3 64 rfl dX7_counted_63 rfl ?_
        refine Go.aload_n 0 65 rfl dX7_counted_64 rfl ?_
        obtain ⟨k65, qk65, hk65, hf⟩ := f_rfd hf
        refine Go.getR 68 rfl dX7_counted_65 fl_X7_22 rfl (isT_lt ha0) (isT_sh ha0) qk65 ?_
        refine Go.iconst (1 : Int32) 69 rfl dX7_counted_68 ci_1 ?_
        obtain ⟨g69, hf⟩ := f_grd hf
        refine Go.iald 70 rfl dX7_counted_69 (isT_lt hk65) (isT_sh hk65) g69 ?_
        refine Go.icmp_ge 100 73 rfl dX7_counted_70 rfl (fun hc => ?_) (fun hc => ?_)
        · replace hf := f_if hf hc
          exact Go.sub [0, 1, 2] [(0, .ref a0), (1, .int a1), (2, .int l63_2)] rfl (J100 l63_2 hf)
        · replace hf := f_el hf hc
          refine Go.iload_n 1 74 rfl dX7_counted_73 rfl ?_
          refine Go.iconst (4 : Int32) 75 rfl dX7_counted_74 ci_4 ?_
          refine Go.icmp_ne 100 78 rfl dX7_counted_75 rfl (fun hc => ?_) (fun hc => ?_)
          · replace hf := f_el hf hc
            exact Go.sub [0, 1, 2] [(0, .ref a0), (1, .int a1), (2, .int l63_2)] rfl (J100 l63_2 hf)
          · replace hf := f_if hf hc
            refine Go.iload_n 2 79 rfl dX7_counted_78 rfl ?_
            refine Go.aload_n 0 80 rfl dX7_counted_79 rfl ?_
            refine Go.iload_n 3 81 rfl dX7_counted_80 rfl ?_
            obtain ⟨r81, er81, hf⟩ := f_bnd hf
            refine Go.cV 84 [.int l63_3] [.int l63_2] (C_X7_isFree G l n S a0 l63_3 r81 ha0 er81) rfl dX7_counted_81 cv_X7_147 ha0 (by decide) (by decide) rfl (Nat.le_of_ble_eq_true rfl) ?_
            obtain ⟨K92, eK92, hf⟩ := f_jn hf
            have J92 : ∀ (j92s1 : Int32), K92 j92s1 = some r → GoM G l 3 (TmR G (some (.int r)) 97 S 0 0) mX7_counted 92 [(0, .ref a0), (1, .int a1), (3, .int l63_3)] [.int j92s1, .int l63_2] S := by
              intro j92s1 hf
              rw [eK92] at hf
              refine Go.iadd 93 rfl dX7_counted_92 ?_
              obtain ⟨v93, ev93, hf⟩ := f_nm hf
              refine Go.topi v93 ev93 ?_
              refine Go.istore_n 94 [(2, .int v93), (0, .ref a0), (1, .int a1), (3, .int l63_3)] rfl dX7_counted_93 (by decide) rfl ?_
              refine Go.inc 3 97 (1 : Int32) [(3, .int (l63_3 + (1 : Int32))), (2, .int v93), (0, .ref a0), (1, .int a1)] rfl dX7_counted_94 rfl ci_1 (by decide) rfl ?_
              refine Go.goto 63 dX7_counted_97 rfl ?_
              exact Go.sub [2, 3, 1, 0] [(0, .ref a0), (1, .int a1), (2, .int v93), (3, .int (l63_3 + (1 : Int32)))] rfl (ih v93 (l63_3 + (1 : Int32)) hf)
            clear eK92
            refine Go.if_eq 91 87 rfl dX7_counted_84 rfl (fun hc => ?_) (fun hc => ?_)
            · replace hf := f_if hf hc
              refine Go.iconst (0 : Int32) 92 rfl dX7_counted_91 ci_0 ?_
              exact Go.sub [0, 1, 3] [(0, .ref a0), (1, .int a1), (3, .int l63_3)] rfl (J92 (0 : Int32) hf)
            · replace hf := f_el hf hc
              refine Go.iconst (1 : Int32) 88 rfl dX7_counted_87 ci_1 ?_
              refine Go.goto 92 dX7_counted_88 rfl ?_
              exact Go.sub [0, 1, 3] [(0, .ref a0), (1, .int a1), (3, .int l63_3)] rfl (J92 (1 : Int32) hf)
    exact Go.sub [1, 2, 3, 0] [(0, .ref a0), (1, .int a1), (2, .int x61_2), (3, .int (0 : Int32))] rfl (L63 n x61_2 (0 : Int32) hf)
  clear eK61
  have L4 : ∀ (fu : Nat) (l4_2 : Int32) (l4_3 : Int32), F_X7_counted_L4 n S a0 a1 K61 fu l4_2 l4_3 = some r → GoM G l 3 (TmR G (some (.int r)) 97 S 0 0) mX7_counted 4 [(0, .ref a0), (1, .int a1), (2, .int l4_2), (3, .int l4_3)] [] S := by
    intro fu
    induction fu with
    | zero => intro l4_2 l4_3 hf; rw [F_X7_counted_L4] at hf; cases hf
    | succ fu ih =>
      intro l4_2 l4_3 hf
      rw [F_X7_counted_L4] at hf
      refine Go.iload_n 3 5 rfl dX7_counted_4 rfl ?_
      refine Go.aload_n 0 6 rfl dX7_counted_5 rfl ?_
      obtain ⟨k6, qk6, hk6, hf⟩ := f_rfd hf
      refine Go.getR 9 rfl dX7_counted_6 fl_X7_22 rfl (isT_lt ha0) (isT_sh ha0) qk6 ?_
      refine Go.iconst (0 : Int32) 10 rfl dX7_counted_9 ci_0 ?_
      obtain ⟨g10, hf⟩ := f_grd hf
      refine Go.iald 11 rfl dX7_counted_10 (isT_lt hk6) (isT_sh hk6) g10 ?_
      refine Go.icmp_ge 61 14 rfl dX7_counted_11 rfl (fun hc => ?_) (fun hc => ?_)
      · replace hf := f_if hf hc
        exact Go.sub [0, 1, 2] [(0, .ref a0), (1, .int a1), (2, .int l4_2)] rfl (J61 l4_2 hf)
      · replace hf := f_el hf hc
        refine Go.iload_n 2 15 rfl dX7_counted_14 rfl ?_
        refine Go.iload_n 1 16 rfl dX7_counted_15 rfl ?_
        refine Go.iconst (3 : Int32) 17 rfl dX7_counted_16 ci_3 ?_
        obtain ⟨K53, eK53, hf⟩ := f_jn hf
        have J53 : ∀ (j53s1 : Int32), K53 j53s1 = some r → GoM G l 3 (TmR G (some (.int r)) 97 S 0 0) mX7_counted 53 [(0, .ref a0), (1, .int a1), (3, .int l4_3)] [.int j53s1, .int l4_2] S := by
          intro j53s1 hf
          rw [eK53] at hf
          refine Go.iadd 54 rfl dX7_counted_53 ?_
          obtain ⟨v54, ev54, hf⟩ := f_nm hf
          refine Go.topi v54 ev54 ?_
          refine Go.istore_n 55 [(2, .int v54), (0, .ref a0), (1, .int a1), (3, .int l4_3)] rfl dX7_counted_54 (by decide) rfl ?_
          refine Go.inc 3 58 (1 : Int32) [(3, .int (l4_3 + (1 : Int32))), (2, .int v54), (0, .ref a0), (1, .int a1)] rfl dX7_counted_55 rfl ci_1 (by decide) rfl ?_
          refine Go.goto 4 dX7_counted_58 rfl ?_
          exact Go.sub [2, 3, 1, 0] [(0, .ref a0), (1, .int a1), (2, .int v54), (3, .int (l4_3 + (1 : Int32)))] rfl (ih v54 (l4_3 + (1 : Int32)) hf)
        clear eK53
        obtain ⟨K48, eK48, hf⟩ := f_jn hf
        have J48 : K48 = some r → GoM G l 3 (TmR G (some (.int r)) 97 S 0 0) mX7_counted 48 [(0, .ref a0), (1, .int a1), (3, .int l4_3)] [.int l4_2] S := by
          intro hf
          rw [eK48] at hf
          refine Go.iconst (1 : Int32) 49 rfl dX7_counted_48 ci_1 ?_
          refine Go.goto 53 dX7_counted_49 rfl ?_
          exact J53 (1 : Int32) hf
        clear eK48
        obtain ⟨K28, eK28, hf⟩ := f_jn hf
        have J28 : K28 = some r → GoM G l 3 (TmR G (some (.int r)) 97 S 0 0) mX7_counted 28 [(0, .ref a0), (1, .int a1), (3, .int l4_3)] [.int l4_2] S := by
          intro hf
          rw [eK28] at hf
          refine Go.iload_n 1 29 rfl dX7_counted_28 rfl ?_
          refine Go.iconst (5 : Int32) 30 rfl dX7_counted_29 ci_5 ?_
          obtain ⟨K52, eK52, hf⟩ := f_jn hf
          have J52 : K52 = some r → GoM G l 3 (TmR G (some (.int r)) 97 S 0 0) mX7_counted 52 [(0, .ref a0), (1, .int a1), (3, .int l4_3)] [.int l4_2] S := by
            intro hf
            rw [eK52] at hf
            refine Go.iconst (0 : Int32) 53 rfl dX7_counted_52 ci_0 ?_
            exact J53 (0 : Int32) hf
          clear eK52
          refine Go.icmp_ne 52 33 rfl dX7_counted_30 rfl (fun hc => ?_) (fun hc => ?_)
          · replace hf := f_el hf hc
            exact J52 hf
          · replace hf := f_if hf hc
            refine Go.aload_n 0 34 rfl dX7_counted_33 rfl ?_
            refine Go.getR 37 rfl dX7_counted_34 fl_X7_22 rfl (isT_lt ha0) (isT_sh ha0) qk6 ?_
            refine Go.iconst (3 : Int32) 38 rfl dX7_counted_37 ci_3 ?_
            refine Go.iload_n 2 39 rfl dX7_counted_38 rfl ?_
            refine Go.iadd 40 rfl dX7_counted_39 ?_
            obtain ⟨g40, hf⟩ := f_grd hf
            refine Go.iald 41 rfl dX7_counted_40 (isT_lt hk6) (isT_sh hk6) g40 ?_
            refine Go.iconst (2 : Int32) 42 rfl dX7_counted_41 ci_2 ?_
            obtain ⟨r42, er42, hf⟩ := f_bnd hf
            refine Go.cS 45 [.int (S.1 k6 ((3 : Int32) + l4_3).toNatClampNeg), .int (2 : Int32)] [.int l4_2] (C_X7_isOf G l n S (S.1 k6 ((3 : Int32) + l4_3).toNatClampNeg) (2 : Int32) r42  er42) rfl dX7_counted_42 cx_X7_116 (by decide) (by decide) rfl (Nat.le_of_ble_eq_true rfl) ?_
            refine Go.if_eq 52 48 rfl dX7_counted_45 rfl (fun hc => ?_) (fun hc => ?_)
            · replace hf := f_if hf hc
              exact J52 hf
            · replace hf := f_el hf hc
              exact J48 hf
        clear eK28
        refine Go.icmp_ne 28 20 rfl dX7_counted_17 rfl (fun hc => ?_) (fun hc => ?_)
        · replace hf := f_el hf hc
          exact Go.sub [0, 1, 3] [(0, .ref a0), (1, .int a1), (3, .int l4_3)] rfl (J28 hf)
        · replace hf := f_if hf hc
          refine Go.aload_n 0 21 rfl dX7_counted_20 rfl ?_
          refine Go.iload_n 3 22 rfl dX7_counted_21 rfl ?_
          obtain ⟨r22, er22, hf⟩ := f_bnd hf
          refine Go.cV 25 [.int l4_3] [.int l4_2] (C_X7_isFreeCard G l n S a0 l4_3 r22 ha0 er22) rfl dX7_counted_22 cv_X7_150 ha0 (by decide) (by decide) rfl (Nat.le_of_ble_eq_true rfl) ?_
          refine Go.if_ne 48 28 rfl dX7_counted_25 rfl (fun hc => ?_) (fun hc => ?_)
          · replace hf := f_el hf hc
            exact Go.sub [0, 1, 3] [(0, .ref a0), (1, .int a1), (3, .int l4_3)] rfl (J48 hf)
          · replace hf := f_if hf hc
            exact Go.sub [0, 1, 3] [(0, .ref a0), (1, .int a1), (3, .int l4_3)] rfl (J28 hf)
  exact Go.sub [2, 3, 1, 0] [(0, .ref a0), (1, .int a1), (2, .int (0 : Int32)), (3, .int (0 : Int32))] rfl (L4 n (0 : Int32) (0 : Int32) hf)
theorem dX7_count_0 : decode cX7_count 0 = .ok (.iload_n 1, 1) := by decide +kernel
theorem dX7_count_1 : decode cX7_count 1 = .ok (.i2l, 1) := by decide +kernel
theorem dX7_count_2 : decode cX7_count 2 = .ok (.lconst 0, 1) := by decide +kernel
theorem dX7_count_3 : decode cX7_count 3 = .ok (.ldc2_w 223, 3) := by decide +kernel
theorem dX7_count_6 : decode cX7_count 6 = .ok (.invokestatic 66, 3) := by decide +kernel
theorem dX7_count_9 : decode cX7_count 9 = .ok (.ifCond .eq 11, 3) := by decide +kernel
theorem dX7_count_12 : decode cX7_count 12 = .ok (.aload_n 0, 1) := by decide +kernel
theorem dX7_count_13 : decode cX7_count 13 = .ok (.iload_n 1, 1) := by decide +kernel
theorem dX7_count_14 : decode cX7_count 14 = .ok (.invokevirtual 225, 3) := by decide +kernel
theorem dX7_count_17 : decode cX7_count 17 = .ok (.goto 4, 3) := by decide +kernel
theorem dX7_count_20 : decode cX7_count 20 = .ok (.iconst (-1), 1) := by decide +kernel
theorem dX7_count_21 : decode cX7_count 21 = .ok (.ireturn, 1) := by decide +kernel
def F_X7_count (n : Nat) (S : aSt) (a0 : Nat) (a1 : Int32) : Option Int32 :=
(F_X7_in n S a1.toInt64 (0 : Int64) (8 : Int64)).bind fun r6 =>
if r6 = 0 then (some (-1 : Int32)) else
(F_X7_counted n S a0 a1).bind fun r14 =>
some r14
set_option maxHeartbeats 4000000 in
set_option maxRecDepth 100000 in
theorem C_X7_count (G : aG) (l : Launch) (n : Nat) (S : aSt) (a0 : Nat) (a1 : Int32) (r : Int32) (ha0 : isT a0 6 = true) (hf : F_X7_count n S a0 a1 = some r) : Ctr G l yX7_count mX7_count (rmM 4) 97 97 S [.ref a0, .int a1] (some (.int r)) S := by
  refine Ctr.of (by decide) rfl rfl (Nat.le_of_ble_eq_true rfl) [(0, .ref a0), (1, .int a1)] rfl ?_
  unfold F_X7_count at hf
  refine Go.iload_n 1 1 rfl dX7_count_0 rfl ?_
  refine Go.i2l 2 rfl dX7_count_1 ?_
  refine Go.lconst (0 : Int64) 3 rfl dX7_count_2 cl_0 ?_
  refine Go.ldc2 (8 : Int64) 6 rfl dX7_count_3 (am_mem 1232 (by decide +kernel) rfl) ?_
  obtain ⟨r6, er6, hf⟩ := f_bnd hf
  refine Go.cS 9 [.long a1.toInt64, .long (0 : Int64), .long (8 : Int64)] [] (C_X7_in G l n S a1.toInt64 (0 : Int64) (8 : Int64) r6  er6) rfl dX7_count_6 cx_X7_66 (by decide) (by decide) rfl (Nat.le_of_ble_eq_true rfl) ?_
  refine Go.if_eq 20 12 rfl dX7_count_9 rfl (fun hc => ?_) (fun hc => ?_)
  · replace hf := f_if hf hc
    refine Go.iconst (-1 : Int32) 21 rfl dX7_count_20 ci_m1 ?_
    exact Go.ir rfl dX7_count_21 hf
  · replace hf := f_el hf hc
    refine Go.aload_n 0 13 rfl dX7_count_12 rfl ?_
    refine Go.iload_n 1 14 rfl dX7_count_13 rfl ?_
    obtain ⟨r14, er14, hf⟩ := f_bnd hf
    refine Go.cV 17 [.int a1] [] (C_X7_counted G l n S a0 a1 r14 ha0 er14) rfl dX7_count_14 cv_X7_225 ha0 (by decide) (by decide) rfl (Nat.le_of_ble_eq_true rfl) ?_
    refine Go.goto 21 dX7_count_17 rfl ?_
    exact Go.ir rfl dX7_count_21 hf
theorem dX7_finding_0 : decode cX7_finding 0 = .ok (.aload_n 0, 1) := by decide +kernel
theorem dX7_finding_1 : decode cX7_finding 1 = .ok (.getfield 57, 3) := by decide +kernel
theorem dX7_finding_4 : decode cX7_finding 4 = .ok (.ireturn, 1) := by decide +kernel
def F_X7_finding (n : Nat) (S : aSt) (a0 : Nat) : Option Int32 :=
some (S.1 a0 10)
set_option maxHeartbeats 4000000 in
set_option maxRecDepth 100000 in
theorem C_X7_finding (G : aG) (l : Launch) (n : Nat) (S : aSt) (a0 : Nat) (r : Int32) (ha0 : isT a0 6 = true) (hf : F_X7_finding n S a0 = some r) : Ctr G l yX7_finding mX7_finding (rmM 1) 97 97 S [.ref a0] (some (.int r)) S := by
  refine Ctr.of (by decide) rfl rfl (Nat.le_of_ble_eq_true rfl) [(0, .ref a0)] rfl ?_
  unfold F_X7_finding at hf
  refine Go.aload_n 0 1 rfl dX7_finding_0 rfl ?_
  refine Go.getI 4 rfl dX7_finding_1 fl_X7_57 rfl (isT_lt ha0) (isT_sh ha0) ?_
  exact Go.ir rfl dX7_finding_4 hf
