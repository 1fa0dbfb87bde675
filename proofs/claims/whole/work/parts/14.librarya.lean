/-! written by program: X1_pastBlanks X1_figure X1_readCard X1_readQuestion X1_readFrom X1_isCard X1_isQuestion X1_allCards X1_isFreeCard X1_isFreeQuestion X1_freeCards X1_answered X1_meaningOf X1_isFitting X1_fittingCards -/
theorem dX1_pastBlanks_0 : decode cX1_pastBlanks 0 = .ok (.iload_n 1, 1) := by decide +kernel
theorem dX1_pastBlanks_1 : decode cX1_pastBlanks 1 = .ok (.istore_n 2, 1) := by decide +kernel
theorem dX1_pastBlanks_2 : decode cX1_pastBlanks 2 = .ok (.iload_n 2, 1) := by decide +kernel
theorem dX1_pastBlanks_3 : decode cX1_pastBlanks 3 = .ok (.aload_n 0, 1) := by decide +kernel
theorem dX1_pastBlanks_4 : decode cX1_pastBlanks 4 = .ok (.getfield 47, 3) := by decide +kernel
theorem dX1_pastBlanks_7 : decode cX1_pastBlanks 7 = .ok (.if_icmp .ge 22, 3) := by decide +kernel
theorem dX1_pastBlanks_10 : decode cX1_pastBlanks 10 = .ok (.aload_n 0, 1) := by decide +kernel
theorem dX1_pastBlanks_11 : decode cX1_pastBlanks 11 = .ok (.getfield 60, 3) := by decide +kernel
theorem dX1_pastBlanks_14 : decode cX1_pastBlanks 14 = .ok (.iload_n 2, 1) := by decide +kernel
theorem dX1_pastBlanks_15 : decode cX1_pastBlanks 15 = .ok (.iaload, 1) := by decide +kernel
theorem dX1_pastBlanks_16 : decode cX1_pastBlanks 16 = .ok (.bipush 32, 2) := by decide +kernel
theorem dX1_pastBlanks_18 : decode cX1_pastBlanks 18 = .ok (.if_icmp .eq 5, 3) := by decide +kernel
theorem dX1_pastBlanks_21 : decode cX1_pastBlanks 21 = .ok (.iload_n 2, 1) := by decide +kernel
theorem dX1_pastBlanks_22 : decode cX1_pastBlanks 22 = .ok (.ireturn, 1) := by decide +kernel
theorem dX1_pastBlanks_23 : decode cX1_pastBlanks 23 = .ok (.iinc 2 1, 3) := by decide +kernel
theorem dX1_pastBlanks_26 : decode cX1_pastBlanks 26 = .ok (.goto (-24), 3) := by decide +kernel
theorem dX1_pastBlanks_29 : decode cX1_pastBlanks 29 = .ok (.aload_n 0, 1) := by decide +kernel
theorem dX1_pastBlanks_30 : decode cX1_pastBlanks 30 = .ok (.getfield 47, 3) := by decide +kernel
theorem dX1_pastBlanks_33 : decode cX1_pastBlanks 33 = .ok (.ireturn, 1) := by decide +kernel
def F_X1_pastBlanks_L2 (S : aSt) (a0 : Nat) (K29 : Option Int32) : Nat → Int32 → Option Int32
  | 0, _ => none
  | fu + 1, l2_2 =>
    if (S.1 a0 1) ≤ l2_2 then (K29) else
    rfd (S.2.2 a0 0) 7 fun k11 =>
    grd (inb l2_2 (SH k11).2) <|
    if (S.1 k11 l2_2.toNatClampNeg) = (32 : Int32) then (F_X1_pastBlanks_L2 S a0 K29 fu (l2_2 + (1 : Int32))) else
    some l2_2
def F_X1_pastBlanks (n : Nat) (S : aSt) (a0 : Nat) (a1 : Int32) : Option Int32 :=
jn ((some (S.1 a0 1) : Option Int32)) fun K29 =>
F_X1_pastBlanks_L2 S a0 K29 n a1
set_option maxHeartbeats 4000000 in
set_option maxRecDepth 100000 in
theorem C_X1_pastBlanks (G : aG) (l : Launch) (n : Nat) (S : aSt) (a0 : Nat) (a1 : Int32) (r : Int32) (ha0 : isT a0 3 = true) (hf : F_X1_pastBlanks n S a0 a1 = some r) : Ctr G l yX1_pastBlanks mX1_pastBlanks (rmM 1) 97 97 S [.ref a0, .int a1] (some (.int r)) S := by
  refine Ctr.of (by decide) rfl rfl (Nat.le_of_ble_eq_true rfl) [(0, .ref a0), (1, .int a1)] rfl ?_
  unfold F_X1_pastBlanks at hf
  refine Go.iload_n 1 1 rfl dX1_pastBlanks_0 rfl ?_
  refine Go.istore_n 2 [(2, .int a1), (0, .ref a0), (1, .int a1)] rfl dX1_pastBlanks_1 (by decide) rfl ?_
  obtain ⟨K29, eK29, hf⟩ := f_jn hf
  have J29 : K29 = some r → GoM G l 1 (TmR G (some (.int r)) 97 S 0 0) mX1_pastBlanks 29 [(0, .ref a0)] [] S := by
    intro hf
    rw [eK29] at hf
    refine Go.aload_n 0 30 rfl dX1_pastBlanks_29 rfl ?_
    refine Go.getI 33 rfl dX1_pastBlanks_30 fl_X1_47 rfl (isT_lt ha0) (isT_sh ha0) ?_
    exact Go.ir rfl dX1_pastBlanks_33 hf
  clear eK29
  have L2 : ∀ (fu : Nat) (l2_2 : Int32), F_X1_pastBlanks_L2 S a0 K29 fu l2_2 = some r → GoM G l 1 (TmR G (some (.int r)) 97 S 0 0) mX1_pastBlanks 2 [(0, .ref a0), (2, .int l2_2)] [] S := by
    intro fu
    induction fu with
    | zero => intro l2_2 hf; rw [F_X1_pastBlanks_L2] at hf; cases hf
    | succ fu ih =>
      intro l2_2 hf
      rw [F_X1_pastBlanks_L2] at hf
      refine Go.iload_n 1 3 rfl dX1_pastBlanks_2 rfl ?_
      refine Go.aload_n 0 4 rfl dX1_pastBlanks_3 rfl ?_
      refine Go.getI 7 rfl dX1_pastBlanks_4 fl_X1_47 rfl (isT_lt ha0) (isT_sh ha0) ?_
      refine Go.icmp_ge 29 10 rfl dX1_pastBlanks_7 rfl (fun hc => ?_) (fun hc => ?_)
      · replace hf := f_if hf hc
        exact Go.sub [0] [(0, .ref a0)] rfl (J29 hf)
      · replace hf := f_el hf hc
        refine Go.aload_n 0 11 rfl dX1_pastBlanks_10 rfl ?_
        obtain ⟨k11, qk11, hk11, hf⟩ := f_rfd hf
        refine Go.getR 14 rfl dX1_pastBlanks_11 fl_X1_60 rfl (isT_lt ha0) (isT_sh ha0) qk11 ?_
        refine Go.iload_n 1 15 rfl dX1_pastBlanks_14 rfl ?_
        obtain ⟨g15, hf⟩ := f_grd hf
        refine Go.iald 16 rfl dX1_pastBlanks_15 (isT_lt hk11) (isT_sh hk11) g15 ?_
        refine Go.bipush (32 : Int32) 18 rfl dX1_pastBlanks_16 cb_32 ?_
        refine Go.icmp_eq 23 21 rfl dX1_pastBlanks_18 rfl (fun hc => ?_) (fun hc => ?_)
        · replace hf := f_if hf hc
          refine Go.inc 1 26 (1 : Int32) [(2, .int (l2_2 + (1 : Int32))), (0, .ref a0)] rfl dX1_pastBlanks_23 rfl ci_1 (by decide) rfl ?_
          refine Go.goto 2 dX1_pastBlanks_26 rfl ?_
          exact Go.sub [1, 0] [(0, .ref a0), (2, .int (l2_2 + (1 : Int32)))] rfl (ih (l2_2 + (1 : Int32)) hf)
        · replace hf := f_el hf hc
          refine Go.iload_n 1 22 rfl dX1_pastBlanks_21 rfl ?_
          exact Go.ir rfl dX1_pastBlanks_22 hf
  exact Go.sub [1, 0] [(0, .ref a0), (2, .int a1)] rfl (L2 n a1 hf)
theorem dX1_figure_0 : decode cX1_figure 0 = .ok (.aload_n 0, 1) := by decide +kernel
theorem dX1_figure_1 : decode cX1_figure 1 = .ok (.iload_n 1, 1) := by decide +kernel
theorem dX1_figure_2 : decode cX1_figure 2 = .ok (.invokevirtual 56, 3) := by decide +kernel
theorem dX1_figure_5 : decode cX1_figure 5 = .ok (.ifCond .ne 6, 3) := by decide +kernel
theorem dX1_figure_8 : decode cX1_figure 8 = .ok (.bipush (-9), 2) := by decide +kernel
theorem dX1_figure_10 : decode cX1_figure 10 = .ok (.ireturn, 1) := by decide +kernel
theorem dX1_figure_11 : decode cX1_figure 11 = .ok (.aload_n 0, 1) := by decide +kernel
theorem dX1_figure_12 : decode cX1_figure 12 = .ok (.getfield 60, 3) := by decide +kernel
theorem dX1_figure_15 : decode cX1_figure 15 = .ok (.iload_n 1, 1) := by decide +kernel
theorem dX1_figure_16 : decode cX1_figure 16 = .ok (.iaload, 1) := by decide +kernel
theorem dX1_figure_17 : decode cX1_figure 17 = .ok (.bipush 48, 2) := by decide +kernel
theorem dX1_figure_19 : decode cX1_figure 19 = .ok (.isub, 1) := by decide +kernel
theorem dX1_figure_20 : decode cX1_figure 20 = .ok (.istore 4, 2) := by decide +kernel
theorem dX1_figure_22 : decode cX1_figure 22 = .ok (.iload 4, 2) := by decide +kernel
theorem dX1_figure_24 : decode cX1_figure 24 = .ok (.iload_n 2, 1) := by decide +kernel
theorem dX1_figure_25 : decode cX1_figure 25 = .ok (.iconst 0, 1) := by decide +kernel
theorem dX1_figure_26 : decode cX1_figure 26 = .ok (.invokestatic 85, 3) := by decide +kernel
theorem dX1_figure_29 : decode cX1_figure 29 = .ok (.if_icmp .lt 14, 3) := by decide +kernel
theorem dX1_figure_32 : decode cX1_figure 32 = .ok (.iload 4, 2) := by decide +kernel
theorem dX1_figure_34 : decode cX1_figure 34 = .ok (.iload_n 3, 1) := by decide +kernel
theorem dX1_figure_35 : decode cX1_figure 35 = .ok (.if_icmp .gt 8, 3) := by decide +kernel
theorem dX1_figure_38 : decode cX1_figure 38 = .ok (.iload 4, 2) := by decide +kernel
theorem dX1_figure_40 : decode cX1_figure 40 = .ok (.goto 5, 3) := by decide +kernel
theorem dX1_figure_43 : decode cX1_figure 43 = .ok (.bipush (-9), 2) := by decide +kernel
theorem dX1_figure_45 : decode cX1_figure 45 = .ok (.ireturn, 1) := by decide +kernel
def F_X1_figure (n : Nat) (S : aSt) (a0 : Nat) (a1 : Int32) (a2 : Int32) (a3 : Int32) : Option Int32 :=
(F_X4_reaches n S a0 a1).bind fun r2 =>
if r2 = 0 then (some (-9 : Int32)) else
rfd (S.2.2 a0 0) 7 fun k12 =>
grd (inb a1 (SH k12).2) <|
nm ((S.1 k12 a1.toNatClampNeg) - (48 : Int32)) fun v20 =>
if v20 < (if a2 < (0 : Int32) then (0 : Int32) else a2) then (some (-9 : Int32)) else
if a3 < v20 then (some (-9 : Int32)) else
some v20
set_option maxHeartbeats 4000000 in
set_option maxRecDepth 100000 in
theorem C_X1_figure (G : aG) (l : Launch) (n : Nat) (S : aSt) (a0 : Nat) (a1 : Int32) (a2 : Int32) (a3 : Int32) (r : Int32) (ha0 : isT a0 3 = true) (hf : F_X1_figure n S a0 a1 a2 a3 = some r) : Ctr G l yX1_figure mX1_figure (rmM 2) 97 97 S [.ref a0, .int a1, .int a2, .int a3] (some (.int r)) S := by
  refine Ctr.of (by decide) rfl rfl (Nat.le_of_ble_eq_true rfl) [(0, .ref a0), (1, .int a1), (2, .int a2), (3, .int a3)] rfl ?_
  unfold F_X1_figure at hf
  refine Go.aload_n 0 1 rfl dX1_figure_0 rfl ?_
  refine Go.iload_n 1 2 rfl dX1_figure_1 rfl ?_
  obtain ⟨r2, er2, hf⟩ := f_bnd hf
  refine Go.cV 5 [.int a1] [] (C_X4_reaches G l n S a0 a1 r2 ha0 er2) rfl dX1_figure_2 cv_X1_56 ha0 (by decide) (by decide) rfl (Nat.le_of_ble_eq_true rfl) ?_
  refine Go.if_ne 11 8 rfl dX1_figure_5 rfl (fun hc => ?_) (fun hc => ?_)
  · replace hf := f_el hf hc
    refine Go.aload_n 0 12 rfl dX1_figure_11 rfl ?_
    obtain ⟨k12, qk12, hk12, hf⟩ := f_rfd hf
    refine Go.getR 15 rfl dX1_figure_12 fl_X1_60 rfl (isT_lt ha0) (isT_sh ha0) qk12 ?_
    refine Go.iload_n 1 16 rfl dX1_figure_15 rfl ?_
    obtain ⟨g16, hf⟩ := f_grd hf
    refine Go.iald 17 rfl dX1_figure_16 (isT_lt hk12) (isT_sh hk12) g16 ?_
    refine Go.bipush (48 : Int32) 19 rfl dX1_figure_17 cb_48 ?_
    refine Go.isub 20 rfl dX1_figure_19 ?_
    obtain ⟨v20, ev20, hf⟩ := f_nm hf
    refine Go.topi v20 ev20 ?_
    refine Go.istore 22 [(4, .int v20), (0, .ref a0), (1, .int a1), (2, .int a2), (3, .int a3)] rfl dX1_figure_20 (by decide) rfl ?_
    refine Go.iload 0 24 rfl dX1_figure_22 rfl ?_
    refine Go.iload_n 3 25 rfl dX1_figure_24 rfl ?_
    refine Go.iconst (0 : Int32) 26 rfl dX1_figure_25 ci_0 ?_
    refine Go.mmax 29 rfl dX1_figure_26 (am_mem 372 (by decide +kernel) rfl) (am_mem 237 (by decide +kernel) rfl) (am_mem 59 (by decide +kernel) rfl) (am_mem 238 (by decide +kernel) rfl) (Nat.le_of_ble_eq_true rfl) ?_
    refine Go.icmp_lt 43 32 rfl dX1_figure_29 rfl (fun hc => ?_) (fun hc => ?_)
    · replace hf := f_if hf hc
      refine Go.bipush (-9 : Int32) 45 rfl dX1_figure_43 cb_m9 ?_
      exact Go.ir rfl dX1_figure_45 hf
    · replace hf := f_el hf hc
      refine Go.iload 0 34 rfl dX1_figure_32 rfl ?_
      refine Go.iload_n 4 35 rfl dX1_figure_34 rfl ?_
      refine Go.icmp_gt 43 38 rfl dX1_figure_35 rfl (fun hc => ?_) (fun hc => ?_)
      · replace hf := f_if hf hc
        refine Go.bipush (-9 : Int32) 45 rfl dX1_figure_43 cb_m9 ?_
        exact Go.ir rfl dX1_figure_45 hf
      · replace hf := f_el hf hc
        refine Go.iload 0 40 rfl dX1_figure_38 rfl ?_
        refine Go.goto 45 dX1_figure_40 rfl ?_
        exact Go.ir rfl dX1_figure_45 hf
  · replace hf := f_if hf hc
    refine Go.bipush (-9 : Int32) 10 rfl dX1_figure_8 cb_m9 ?_
    exact Go.ir rfl dX1_figure_10 hf
theorem dX1_readCard_0 : decode cX1_readCard 0 = .ok (.aload_n 1, 1) := by decide +kernel
theorem dX1_readCard_1 : decode cX1_readCard 1 = .ok (.getfield 60, 3) := by decide +kernel
theorem dX1_readCard_4 : decode cX1_readCard 4 = .ok (.iload_n 2, 1) := by decide +kernel
theorem dX1_readCard_5 : decode cX1_readCard 5 = .ok (.iaload, 1) := by decide +kernel
theorem dX1_readCard_6 : decode cX1_readCard 6 = .ok (.invokestatic 69, 3) := by decide +kernel
theorem dX1_readCard_9 : decode cX1_readCard 9 = .ok (.istore_n 3, 1) := by decide +kernel
theorem dX1_readCard_10 : decode cX1_readCard 10 = .ok (.iload_n 3, 1) := by decide +kernel
theorem dX1_readCard_11 : decode cX1_readCard 11 = .ok (.bipush (-9), 2) := by decide +kernel
theorem dX1_readCard_13 : decode cX1_readCard 13 = .ok (.if_icmp .eq 19, 3) := by decide +kernel
theorem dX1_readCard_16 : decode cX1_readCard 16 = .ok (.aload_n 0, 1) := by decide +kernel
theorem dX1_readCard_17 : decode cX1_readCard 17 = .ok (.getfield 41, 3) := by decide +kernel
theorem dX1_readCard_20 : decode cX1_readCard 20 = .ok (.ifCond .gt 12, 3) := by decide +kernel
theorem dX1_readCard_23 : decode cX1_readCard 23 = .ok (.aload_n 0, 1) := by decide +kernel
theorem dX1_readCard_24 : decode cX1_readCard 24 = .ok (.getfield 37, 3) := by decide +kernel
theorem dX1_readCard_27 : decode cX1_readCard 27 = .ok (.bipush 7, 2) := by decide +kernel
theorem dX1_readCard_29 : decode cX1_readCard 29 = .ok (.if_icmp .lt 5, 3) := by decide +kernel
theorem dX1_readCard_32 : decode cX1_readCard 32 = .ok (.iload_n 2, 1) := by decide +kernel
theorem dX1_readCard_33 : decode cX1_readCard 33 = .ok (.ireturn, 1) := by decide +kernel
theorem dX1_readCard_34 : decode cX1_readCard 34 = .ok (.aload_n 0, 1) := by decide +kernel
theorem dX1_readCard_35 : decode cX1_readCard 35 = .ok (.getfield 9, 3) := by decide +kernel
theorem dX1_readCard_38 : decode cX1_readCard 38 = .ok (.aload_n 0, 1) := by decide +kernel
theorem dX1_readCard_39 : decode cX1_readCard 39 = .ok (.getfield 37, 3) := by decide +kernel
theorem dX1_readCard_42 : decode cX1_readCard 42 = .ok (.iload_n 3, 1) := by decide +kernel
theorem dX1_readCard_43 : decode cX1_readCard 43 = .ok (.iastore, 1) := by decide +kernel
theorem dX1_readCard_44 : decode cX1_readCard 44 = .ok (.aload_n 0, 1) := by decide +kernel
theorem dX1_readCard_45 : decode cX1_readCard 45 = .ok (.getfield 15, 3) := by decide +kernel
theorem dX1_readCard_48 : decode cX1_readCard 48 = .ok (.aload_n 0, 1) := by decide +kernel
theorem dX1_readCard_49 : decode cX1_readCard 49 = .ok (.getfield 37, 3) := by decide +kernel
theorem dX1_readCard_52 : decode cX1_readCard 52 = .ok (.aload_n 1, 1) := by decide +kernel
theorem dX1_readCard_53 : decode cX1_readCard 53 = .ok (.iload_n 2, 1) := by decide +kernel
theorem dX1_readCard_54 : decode cX1_readCard 54 = .ok (.iconst 1, 1) := by decide +kernel
theorem dX1_readCard_55 : decode cX1_readCard 55 = .ok (.iadd, 1) := by decide +kernel
theorem dX1_readCard_56 : decode cX1_readCard 56 = .ok (.iconst 0, 1) := by decide +kernel
theorem dX1_readCard_57 : decode cX1_readCard 57 = .ok (.bipush 9, 2) := by decide +kernel
theorem dX1_readCard_59 : decode cX1_readCard 59 = .ok (.invokestatic 75, 3) := by decide +kernel
theorem dX1_readCard_62 : decode cX1_readCard 62 = .ok (.iastore, 1) := by decide +kernel
theorem dX1_readCard_63 : decode cX1_readCard 63 = .ok (.aload_n 0, 1) := by decide +kernel
theorem dX1_readCard_64 : decode cX1_readCard 64 = .ok (.getfield 33, 3) := by decide +kernel
theorem dX1_readCard_67 : decode cX1_readCard 67 = .ok (.getfield 79, 3) := by decide +kernel
theorem dX1_readCard_70 : decode cX1_readCard 70 = .ok (.aload_n 0, 1) := by decide +kernel
theorem dX1_readCard_71 : decode cX1_readCard 71 = .ok (.getfield 37, 3) := by decide +kernel
theorem dX1_readCard_74 : decode cX1_readCard 74 = .ok (.aload_n 1, 1) := by decide +kernel
theorem dX1_readCard_75 : decode cX1_readCard 75 = .ok (.iload_n 2, 1) := by decide +kernel
theorem dX1_readCard_76 : decode cX1_readCard 76 = .ok (.iconst 2, 1) := by decide +kernel
theorem dX1_readCard_77 : decode cX1_readCard 77 = .ok (.iadd, 1) := by decide +kernel
theorem dX1_readCard_78 : decode cX1_readCard 78 = .ok (.iconst 0, 1) := by decide +kernel
theorem dX1_readCard_79 : decode cX1_readCard 79 = .ok (.iconst 3, 1) := by decide +kernel
theorem dX1_readCard_80 : decode cX1_readCard 80 = .ok (.invokestatic 75, 3) := by decide +kernel
theorem dX1_readCard_83 : decode cX1_readCard 83 = .ok (.iastore, 1) := by decide +kernel
theorem dX1_readCard_84 : decode cX1_readCard 84 = .ok (.aload_n 0, 1) := by decide +kernel
theorem dX1_readCard_85 : decode cX1_readCard 85 = .ok (.getfield 33, 3) := by decide +kernel
theorem dX1_readCard_88 : decode cX1_readCard 88 = .ok (.getfield 82, 3) := by decide +kernel
theorem dX1_readCard_91 : decode cX1_readCard 91 = .ok (.aload_n 0, 1) := by decide +kernel
theorem dX1_readCard_92 : decode cX1_readCard 92 = .ok (.getfield 37, 3) := by decide +kernel
theorem dX1_readCard_95 : decode cX1_readCard 95 = .ok (.aload_n 1, 1) := by decide +kernel
theorem dX1_readCard_96 : decode cX1_readCard 96 = .ok (.iload_n 2, 1) := by decide +kernel
theorem dX1_readCard_97 : decode cX1_readCard 97 = .ok (.iconst 3, 1) := by decide +kernel
theorem dX1_readCard_98 : decode cX1_readCard 98 = .ok (.iadd, 1) := by decide +kernel
theorem dX1_readCard_99 : decode cX1_readCard 99 = .ok (.iconst 0, 1) := by decide +kernel
theorem dX1_readCard_100 : decode cX1_readCard 100 = .ok (.bipush 9, 2) := by decide +kernel
theorem dX1_readCard_102 : decode cX1_readCard 102 = .ok (.invokestatic 75, 3) := by decide +kernel
theorem dX1_readCard_105 : decode cX1_readCard 105 = .ok (.iastore, 1) := by decide +kernel
theorem dX1_readCard_106 : decode cX1_readCard 106 = .ok (.aload_n 0, 1) := by decide +kernel
theorem dX1_readCard_107 : decode cX1_readCard 107 = .ok (.getfield 15, 3) := by decide +kernel
theorem dX1_readCard_110 : decode cX1_readCard 110 = .ok (.aload_n 0, 1) := by decide +kernel
theorem dX1_readCard_111 : decode cX1_readCard 111 = .ok (.getfield 37, 3) := by decide +kernel
theorem dX1_readCard_114 : decode cX1_readCard 114 = .ok (.iaload, 1) := by decide +kernel
theorem dX1_readCard_115 : decode cX1_readCard 115 = .ok (.bipush (-9), 2) := by decide +kernel
theorem dX1_readCard_117 : decode cX1_readCard 117 = .ok (.if_icmp .ne 7, 3) := by decide +kernel
theorem dX1_readCard_120 : decode cX1_readCard 120 = .ok (.iload_n 2, 1) := by decide +kernel
theorem dX1_readCard_121 : decode cX1_readCard 121 = .ok (.iconst 1, 1) := by decide +kernel
theorem dX1_readCard_122 : decode cX1_readCard 122 = .ok (.iadd, 1) := by decide +kernel
theorem dX1_readCard_123 : decode cX1_readCard 123 = .ok (.ireturn, 1) := by decide +kernel
theorem dX1_readCard_124 : decode cX1_readCard 124 = .ok (.aload_n 0, 1) := by decide +kernel
theorem dX1_readCard_125 : decode cX1_readCard 125 = .ok (.getfield 33, 3) := by decide +kernel
theorem dX1_readCard_128 : decode cX1_readCard 128 = .ok (.getfield 79, 3) := by decide +kernel
theorem dX1_readCard_131 : decode cX1_readCard 131 = .ok (.aload_n 0, 1) := by decide +kernel
theorem dX1_readCard_132 : decode cX1_readCard 132 = .ok (.getfield 37, 3) := by decide +kernel
theorem dX1_readCard_135 : decode cX1_readCard 135 = .ok (.iaload, 1) := by decide +kernel
theorem dX1_readCard_136 : decode cX1_readCard 136 = .ok (.bipush (-9), 2) := by decide +kernel
theorem dX1_readCard_138 : decode cX1_readCard 138 = .ok (.if_icmp .ne 7, 3) := by decide +kernel
theorem dX1_readCard_141 : decode cX1_readCard 141 = .ok (.iload_n 2, 1) := by decide +kernel
theorem dX1_readCard_142 : decode cX1_readCard 142 = .ok (.iconst 2, 1) := by decide +kernel
theorem dX1_readCard_143 : decode cX1_readCard 143 = .ok (.iadd, 1) := by decide +kernel
theorem dX1_readCard_144 : decode cX1_readCard 144 = .ok (.ireturn, 1) := by decide +kernel
theorem dX1_readCard_145 : decode cX1_readCard 145 = .ok (.aload_n 0, 1) := by decide +kernel
theorem dX1_readCard_146 : decode cX1_readCard 146 = .ok (.getfield 33, 3) := by decide +kernel
theorem dX1_readCard_149 : decode cX1_readCard 149 = .ok (.getfield 82, 3) := by decide +kernel
theorem dX1_readCard_152 : decode cX1_readCard 152 = .ok (.aload_n 0, 1) := by decide +kernel
theorem dX1_readCard_153 : decode cX1_readCard 153 = .ok (.getfield 37, 3) := by decide +kernel
theorem dX1_readCard_156 : decode cX1_readCard 156 = .ok (.iaload, 1) := by decide +kernel
theorem dX1_readCard_157 : decode cX1_readCard 157 = .ok (.bipush (-9), 2) := by decide +kernel
theorem dX1_readCard_159 : decode cX1_readCard 159 = .ok (.if_icmp .ne 7, 3) := by decide +kernel
theorem dX1_readCard_162 : decode cX1_readCard 162 = .ok (.iload_n 2, 1) := by decide +kernel
theorem dX1_readCard_163 : decode cX1_readCard 163 = .ok (.iconst 3, 1) := by decide +kernel
theorem dX1_readCard_164 : decode cX1_readCard 164 = .ok (.iadd, 1) := by decide +kernel
theorem dX1_readCard_165 : decode cX1_readCard 165 = .ok (.ireturn, 1) := by decide +kernel
theorem dX1_readCard_166 : decode cX1_readCard 166 = .ok (.aload_n 0, 1) := by decide +kernel
theorem dX1_readCard_167 : decode cX1_readCard 167 = .ok (.dup, 1) := by decide +kernel
theorem dX1_readCard_168 : decode cX1_readCard 168 = .ok (.getfield 37, 3) := by decide +kernel
theorem dX1_readCard_171 : decode cX1_readCard 171 = .ok (.iconst 1, 1) := by decide +kernel
theorem dX1_readCard_172 : decode cX1_readCard 172 = .ok (.iadd, 1) := by decide +kernel
theorem dX1_readCard_173 : decode cX1_readCard 173 = .ok (.putfield 37, 3) := by decide +kernel
theorem dX1_readCard_176 : decode cX1_readCard 176 = .ok (.bipush (-9), 2) := by decide +kernel
theorem dX1_readCard_178 : decode cX1_readCard 178 = .ok (.ireturn, 1) := by decide +kernel
def F_X1_readCard (n : Nat) (S : aSt) (a0 : Nat) (a1 : Nat) (a2 : Int32) : Option (Int32 × aSt) :=
rfd (S.2.2 a1 0) 7 fun k1 =>
grd (inb a2 (SH k1).2) <|
(F_X0_ofLetter n S (S.1 k1 a2.toNatClampNeg)).bind fun r6 =>
jn (fun (j32S : aSt) => (some (a2, j32S) : Option (Int32 × aSt))) fun K32 =>
if r6 = (-9 : Int32) then (K32 S) else
if 0 < (S.1 a0 8) then (K32 S) else
if (S.1 a0 7) < (7 : Int32) then (rfd (S.2.2 a0 0) 7 fun k35 =>
grd (inb (S.1 a0 7) (SH k35).2) <|
nm (stI S k35 (S.1 a0 7).toNatClampNeg r6) fun S43 =>
rfd (S43.2.2 a0 1) 7 fun k45 =>
(F_X1_figure n S43 a1 (a2 + (1 : Int32)) (0 : Int32) (9 : Int32)).bind fun r59 =>
grd (inb (S43.1 a0 7) (SH k45).2) <|
nm (stI S43 k45 (S43.1 a0 7).toNatClampNeg r59) fun S62 =>
rfd (S62.2.2 a0 6) 4 fun k64 =>
rfd (S62.2.2 k64 0) 7 fun k67 =>
(F_X1_figure n S62 a1 (a2 + (2 : Int32)) (0 : Int32) (3 : Int32)).bind fun r80 =>
grd (inb (S62.1 a0 7) (SH k67).2) <|
nm (stI S62 k67 (S62.1 a0 7).toNatClampNeg r80) fun S83 =>
rfd (S83.2.2 a0 6) 4 fun k85 =>
rfd (S83.2.2 k85 1) 7 fun k88 =>
(F_X1_figure n S83 a1 (a2 + (3 : Int32)) (0 : Int32) (9 : Int32)).bind fun r102 =>
grd (inb (S83.1 a0 7) (SH k88).2) <|
nm (stI S83 k88 (S83.1 a0 7).toNatClampNeg r102) fun S105 =>
rfd (S105.2.2 a0 1) 7 fun k107 =>
grd (inb (S105.1 a0 7) (SH k107).2) <|
if (S105.1 k107 (S105.1 a0 7).toNatClampNeg) = (-9 : Int32) then (some ((a2 + (1 : Int32)), S105)) else
rfd (S105.2.2 a0 6) 4 fun k125 =>
rfd (S105.2.2 k125 0) 7 fun k128 =>
grd (inb (S105.1 a0 7) (SH k128).2) <|
if (S105.1 k128 (S105.1 a0 7).toNatClampNeg) = (-9 : Int32) then (some ((a2 + (2 : Int32)), S105)) else
rfd (S105.2.2 k125 1) 7 fun k149 =>
grd (inb (S105.1 a0 7) (SH k149).2) <|
if (S105.1 k149 (S105.1 a0 7).toNatClampNeg) = (-9 : Int32) then (some ((a2 + (3 : Int32)), S105)) else
nm (stI S105 a0 7 ((S105.1 a0 7) + (1 : Int32))) fun S173 =>
some ((-9 : Int32), S173)) else
K32 S
set_option maxHeartbeats 4000000 in
set_option maxRecDepth 100000 in
theorem C_X1_readCard (G : aG) (l : Launch) (n : Nat) (S : aSt) (a0 : Nat) (a1 : Nat) (a2 : Int32) (r : Int32) (Sr : aSt) (ha0 : isT a0 0 = true) (ha1 : isT a1 3 = true) (hf : F_X1_readCard n S a0 a1 a2 = some (r, Sr)) : Ctr G l yX1_readCard mX1_readCard (rmM 3) 97 97 S [.ref a0, .ref a1, .int a2] (some (.int r)) Sr := by
  refine Ctr.of (by decide) rfl rfl (Nat.le_of_ble_eq_true rfl) [(0, .ref a0), (1, .ref a1), (2, .int a2)] rfl ?_
  unfold F_X1_readCard at hf
  refine Go.aload_n 1 1 rfl dX1_readCard_0 rfl ?_
  obtain ⟨k1, qk1, hk1, hf⟩ := f_rfd hf
  refine Go.getR 4 rfl dX1_readCard_1 fl_X1_60 rfl (isT_lt ha1) (isT_sh ha1) qk1 ?_
  refine Go.iload_n 2 5 rfl dX1_readCard_4 rfl ?_
  obtain ⟨g5, hf⟩ := f_grd hf
  refine Go.iald 6 rfl dX1_readCard_5 (isT_lt hk1) (isT_sh hk1) g5 ?_
  obtain ⟨r6, er6, hf⟩ := f_bnd hf
  refine Go.cS 9 [.int (S.1 k1 a2.toNatClampNeg)] [] (C_X0_ofLetter G l n S (S.1 k1 a2.toNatClampNeg) r6  er6) rfl dX1_readCard_6 cx_X1_69 (by decide) (by decide) rfl (Nat.le_of_ble_eq_true rfl) ?_
  refine Go.istore_n 10 [(3, .int r6), (0, .ref a0), (1, .ref a1), (2, .int a2)] rfl dX1_readCard_9 (by decide) rfl ?_
  refine Go.iload_n 0 11 rfl dX1_readCard_10 rfl ?_
  refine Go.bipush (-9 : Int32) 13 rfl dX1_readCard_11 cb_m9 ?_
  obtain ⟨K32, eK32, hf⟩ := f_jn hf
  have J32 : ∀ (j32S : aSt), K32 j32S = some (r, Sr) → GoM G l 3 (TmR G (some (.int r)) 97 Sr 0 0) mX1_readCard 32 [(2, .int a2)] [] j32S := by
    intro j32S hf
    rw [eK32] at hf
    refine Go.iload_n 0 33 rfl dX1_readCard_32 rfl ?_
    exact Go.irS rfl dX1_readCard_33 hf
  clear eK32
  refine Go.icmp_eq 32 16 rfl dX1_readCard_13 rfl (fun hc => ?_) (fun hc => ?_)
  · replace hf := f_if hf hc
    exact Go.sub [3] [(2, .int a2)] rfl (J32 S hf)
  · replace hf := f_el hf hc
    refine Go.aload_n 1 17 rfl dX1_readCard_16 rfl ?_
    refine Go.getI 20 rfl dX1_readCard_17 fl_X1_41 rfl (isT_lt ha0) (isT_sh ha0) ?_
    refine Go.if_gt 32 23 rfl dX1_readCard_20 rfl (fun hc => ?_) (fun hc => ?_)
    · replace hf := f_if hf hc
      exact Go.sub [3] [(2, .int a2)] rfl (J32 S hf)
    · replace hf := f_el hf hc
      refine Go.aload_n 1 24 rfl dX1_readCard_23 rfl ?_
      refine Go.getI 27 rfl dX1_readCard_24 fl_X1_37 rfl (isT_lt ha0) (isT_sh ha0) ?_
      refine Go.bipush (7 : Int32) 29 rfl dX1_readCard_27 cb_7 ?_
      refine Go.icmp_lt 34 32 rfl dX1_readCard_29 rfl (fun hc => ?_) (fun hc => ?_)
      · replace hf := f_if hf hc
        refine Go.aload_n 1 35 rfl dX1_readCard_34 rfl ?_
        obtain ⟨k35, qk35, hk35, hf⟩ := f_rfd hf
        refine Go.getR 38 rfl dX1_readCard_35 fl_X1_9 rfl (isT_lt ha0) (isT_sh ha0) qk35 ?_
        refine Go.aload_n 1 39 rfl dX1_readCard_38 rfl ?_
        refine Go.getI 42 rfl dX1_readCard_39 fl_X1_37 rfl (isT_lt ha0) (isT_sh ha0) ?_
        refine Go.iload_n 0 43 rfl dX1_readCard_42 rfl ?_
        obtain ⟨g43, hf⟩ := f_grd hf
        obtain ⟨S43, eS43, hf⟩ := f_nm hf
        refine Go.iast 44 rfl dX1_readCard_43 (isT_lt hk35) (isT_sh hk35) g43 (Go.stt S43 eS43 ?_)
        refine Go.aload_n 1 45 rfl dX1_readCard_44 rfl ?_
        obtain ⟨k45, qk45, hk45, hf⟩ := f_rfd hf
        refine Go.getR 48 rfl dX1_readCard_45 fl_X1_15 rfl (isT_lt ha0) (isT_sh ha0) qk45 ?_
        refine Go.aload_n 1 49 rfl dX1_readCard_48 rfl ?_
        refine Go.getI 52 rfl dX1_readCard_49 fl_X1_37 rfl (isT_lt ha0) (isT_sh ha0) ?_
        refine Go.aload_n 2 53 rfl dX1_readCard_52 rfl ?_
        refine Go.iload_n 3 54 rfl dX1_readCard_53 rfl ?_
        refine Go.iconst (1 : Int32) 55 rfl dX1_readCard_54 ci_1 ?_
        refine Go.iadd 56 rfl dX1_readCard_55 ?_
        refine Go.iconst (0 : Int32) 57 rfl dX1_readCard_56 ci_0 ?_
        refine Go.bipush (9 : Int32) 59 rfl dX1_readCard_57 cb_9 ?_
        obtain ⟨r59, er59, hf⟩ := f_bnd hf
        refine Go.cS 62 [.ref a1, .int (a2 + (1 : Int32)), .int (0 : Int32), .int (9 : Int32)] [.int (S43.1 a0 7), .ref k45] (C_X1_figure G l n S43 a1 (a2 + (1 : Int32)) (0 : Int32) (9 : Int32) r59 ha1 er59) rfl dX1_readCard_59 cx_X1_75 (by decide) (by decide) rfl (Nat.le_of_ble_eq_true rfl) ?_
        obtain ⟨g62, hf⟩ := f_grd hf
        obtain ⟨S62, eS62, hf⟩ := f_nm hf
        refine Go.iast 63 rfl dX1_readCard_62 (isT_lt hk45) (isT_sh hk45) g62 (Go.stt S62 eS62 ?_)
        refine Go.aload_n 1 64 rfl dX1_readCard_63 rfl ?_
        obtain ⟨k64, qk64, hk64, hf⟩ := f_rfd hf
        refine Go.getR 67 rfl dX1_readCard_64 fl_X1_33 rfl (isT_lt ha0) (isT_sh ha0) qk64 ?_
        obtain ⟨k67, qk67, hk67, hf⟩ := f_rfd hf
        refine Go.getR 70 rfl dX1_readCard_67 fl_X1_79 rfl (isT_lt hk64) (isT_sh hk64) qk67 ?_
        refine Go.aload_n 1 71 rfl dX1_readCard_70 rfl ?_
        refine Go.getI 74 rfl dX1_readCard_71 fl_X1_37 rfl (isT_lt ha0) (isT_sh ha0) ?_
        refine Go.aload_n 2 75 rfl dX1_readCard_74 rfl ?_
        refine Go.iload_n 3 76 rfl dX1_readCard_75 rfl ?_
        refine Go.iconst (2 : Int32) 77 rfl dX1_readCard_76 ci_2 ?_
        refine Go.iadd 78 rfl dX1_readCard_77 ?_
        refine Go.iconst (0 : Int32) 79 rfl dX1_readCard_78 ci_0 ?_
        refine Go.iconst (3 : Int32) 80 rfl dX1_readCard_79 ci_3 ?_
        obtain ⟨r80, er80, hf⟩ := f_bnd hf
        refine Go.cS 83 [.ref a1, .int (a2 + (2 : Int32)), .int (0 : Int32), .int (3 : Int32)] [.int (S62.1 a0 7), .ref k67] (C_X1_figure G l n S62 a1 (a2 + (2 : Int32)) (0 : Int32) (3 : Int32) r80 ha1 er80) rfl dX1_readCard_80 cx_X1_75 (by decide) (by decide) rfl (Nat.le_of_ble_eq_true rfl) ?_
        obtain ⟨g83, hf⟩ := f_grd hf
        obtain ⟨S83, eS83, hf⟩ := f_nm hf
        refine Go.iast 84 rfl dX1_readCard_83 (isT_lt hk67) (isT_sh hk67) g83 (Go.stt S83 eS83 ?_)
        refine Go.aload_n 1 85 rfl dX1_readCard_84 rfl ?_
        obtain ⟨k85, qk85, hk85, hf⟩ := f_rfd hf
        refine Go.getR 88 rfl dX1_readCard_85 fl_X1_33 rfl (isT_lt ha0) (isT_sh ha0) qk85 ?_
        obtain ⟨k88, qk88, hk88, hf⟩ := f_rfd hf
        refine Go.getR 91 rfl dX1_readCard_88 fl_X1_82 rfl (isT_lt hk85) (isT_sh hk85) qk88 ?_
        refine Go.aload_n 1 92 rfl dX1_readCard_91 rfl ?_
        refine Go.getI 95 rfl dX1_readCard_92 fl_X1_37 rfl (isT_lt ha0) (isT_sh ha0) ?_
        refine Go.aload_n 2 96 rfl dX1_readCard_95 rfl ?_
        refine Go.iload_n 3 97 rfl dX1_readCard_96 rfl ?_
        refine Go.iconst (3 : Int32) 98 rfl dX1_readCard_97 ci_3 ?_
        refine Go.iadd 99 rfl dX1_readCard_98 ?_
        refine Go.iconst (0 : Int32) 100 rfl dX1_readCard_99 ci_0 ?_
        refine Go.bipush (9 : Int32) 102 rfl dX1_readCard_100 cb_9 ?_
        obtain ⟨r102, er102, hf⟩ := f_bnd hf
        refine Go.cS 105 [.ref a1, .int (a2 + (3 : Int32)), .int (0 : Int32), .int (9 : Int32)] [.int (S83.1 a0 7), .ref k88] (C_X1_figure G l n S83 a1 (a2 + (3 : Int32)) (0 : Int32) (9 : Int32) r102 ha1 er102) rfl dX1_readCard_102 cx_X1_75 (by decide) (by decide) rfl (Nat.le_of_ble_eq_true rfl) ?_
        obtain ⟨g105, hf⟩ := f_grd hf
        obtain ⟨S105, eS105, hf⟩ := f_nm hf
        refine Go.iast 106 rfl dX1_readCard_105 (isT_lt hk88) (isT_sh hk88) g105 (Go.stt S105 eS105 ?_)
        refine Go.aload_n 1 107 rfl dX1_readCard_106 rfl ?_
        obtain ⟨k107, qk107, hk107, hf⟩ := f_rfd hf
        refine Go.getR 110 rfl dX1_readCard_107 fl_X1_15 rfl (isT_lt ha0) (isT_sh ha0) qk107 ?_
        refine Go.aload_n 1 111 rfl dX1_readCard_110 rfl ?_
        refine Go.getI 114 rfl dX1_readCard_111 fl_X1_37 rfl (isT_lt ha0) (isT_sh ha0) ?_
        obtain ⟨g114, hf⟩ := f_grd hf
        refine Go.iald 115 rfl dX1_readCard_114 (isT_lt hk107) (isT_sh hk107) g114 ?_
        refine Go.bipush (-9 : Int32) 117 rfl dX1_readCard_115 cb_m9 ?_
        refine Go.icmp_ne 124 120 rfl dX1_readCard_117 rfl (fun hc => ?_) (fun hc => ?_)
        · replace hf := f_el hf hc
          refine Go.aload_n 1 125 rfl dX1_readCard_124 rfl ?_
          obtain ⟨k125, qk125, hk125, hf⟩ := f_rfd hf
          refine Go.getR 128 rfl dX1_readCard_125 fl_X1_33 rfl (isT_lt ha0) (isT_sh ha0) qk125 ?_
          obtain ⟨k128, qk128, hk128, hf⟩ := f_rfd hf
          refine Go.getR 131 rfl dX1_readCard_128 fl_X1_79 rfl (isT_lt hk125) (isT_sh hk125) qk128 ?_
          refine Go.aload_n 1 132 rfl dX1_readCard_131 rfl ?_
          refine Go.getI 135 rfl dX1_readCard_132 fl_X1_37 rfl (isT_lt ha0) (isT_sh ha0) ?_
          obtain ⟨g135, hf⟩ := f_grd hf
          refine Go.iald 136 rfl dX1_readCard_135 (isT_lt hk128) (isT_sh hk128) g135 ?_
          refine Go.bipush (-9 : Int32) 138 rfl dX1_readCard_136 cb_m9 ?_
          refine Go.icmp_ne 145 141 rfl dX1_readCard_138 rfl (fun hc => ?_) (fun hc => ?_)
          · replace hf := f_el hf hc
            refine Go.aload_n 1 146 rfl dX1_readCard_145 rfl ?_
            refine Go.getR 149 rfl dX1_readCard_146 fl_X1_33 rfl (isT_lt ha0) (isT_sh ha0) qk125 ?_
            obtain ⟨k149, qk149, hk149, hf⟩ := f_rfd hf
            refine Go.getR 152 rfl dX1_readCard_149 fl_X1_82 rfl (isT_lt hk125) (isT_sh hk125) qk149 ?_
            refine Go.aload_n 1 153 rfl dX1_readCard_152 rfl ?_
            refine Go.getI 156 rfl dX1_readCard_153 fl_X1_37 rfl (isT_lt ha0) (isT_sh ha0) ?_
            obtain ⟨g156, hf⟩ := f_grd hf
            refine Go.iald 157 rfl dX1_readCard_156 (isT_lt hk149) (isT_sh hk149) g156 ?_
            refine Go.bipush (-9 : Int32) 159 rfl dX1_readCard_157 cb_m9 ?_
            refine Go.icmp_ne 166 162 rfl dX1_readCard_159 rfl (fun hc => ?_) (fun hc => ?_)
            · replace hf := f_el hf hc
              refine Go.aload_n 1 167 rfl dX1_readCard_166 rfl ?_
              refine Go.dup 168 rfl dX1_readCard_167 rfl ?_
              refine Go.getI 171 rfl dX1_readCard_168 fl_X1_37 rfl (isT_lt ha0) (isT_sh ha0) ?_
              refine Go.iconst (1 : Int32) 172 rfl dX1_readCard_171 ci_1 ?_
              refine Go.iadd 173 rfl dX1_readCard_172 ?_
              obtain ⟨S173, eS173, hf⟩ := f_nm hf
              refine Go.putI 176 rfl dX1_readCard_173 fp_X1_37 rfl (isT_lt ha0) (isT_sh ha0) (fun h => by cases h) (Go.stt S173 eS173 ?_)
              refine Go.bipush (-9 : Int32) 178 rfl dX1_readCard_176 cb_m9 ?_
              exact Go.irS rfl dX1_readCard_178 hf
            · replace hf := f_if hf hc
              refine Go.iload_n 3 163 rfl dX1_readCard_162 rfl ?_
              refine Go.iconst (3 : Int32) 164 rfl dX1_readCard_163 ci_3 ?_
              refine Go.iadd 165 rfl dX1_readCard_164 ?_
              exact Go.irS rfl dX1_readCard_165 hf
          · replace hf := f_if hf hc
            refine Go.iload_n 3 142 rfl dX1_readCard_141 rfl ?_
            refine Go.iconst (2 : Int32) 143 rfl dX1_readCard_142 ci_2 ?_
            refine Go.iadd 144 rfl dX1_readCard_143 ?_
            exact Go.irS rfl dX1_readCard_144 hf
        · replace hf := f_if hf hc
          refine Go.iload_n 3 121 rfl dX1_readCard_120 rfl ?_
          refine Go.iconst (1 : Int32) 122 rfl dX1_readCard_121 ci_1 ?_
          refine Go.iadd 123 rfl dX1_readCard_122 ?_
          exact Go.irS rfl dX1_readCard_123 hf
      · replace hf := f_el hf hc
        exact Go.sub [3] [(2, .int a2)] rfl (J32 S hf)
theorem dX1_readQuestion_0 : decode cX1_readQuestion 0 = .ok (.aload_n 0, 1) := by decide +kernel
theorem dX1_readQuestion_1 : decode cX1_readQuestion 1 = .ok (.getfield 37, 3) := by decide +kernel
theorem dX1_readQuestion_4 : decode cX1_readQuestion 4 = .ok (.ifCond .eq 12, 3) := by decide +kernel
theorem dX1_readQuestion_7 : decode cX1_readQuestion 7 = .ok (.aload_n 0, 1) := by decide +kernel
theorem dX1_readQuestion_8 : decode cX1_readQuestion 8 = .ok (.getfield 41, 3) := by decide +kernel
theorem dX1_readQuestion_11 : decode cX1_readQuestion 11 = .ok (.bipush 7, 2) := by decide +kernel
theorem dX1_readQuestion_13 : decode cX1_readQuestion 13 = .ok (.if_icmp .lt 5, 3) := by decide +kernel
theorem dX1_readQuestion_16 : decode cX1_readQuestion 16 = .ok (.iload_n 2, 1) := by decide +kernel
theorem dX1_readQuestion_17 : decode cX1_readQuestion 17 = .ok (.ireturn, 1) := by decide +kernel
theorem dX1_readQuestion_18 : decode cX1_readQuestion 18 = .ok (.aload_n 0, 1) := by decide +kernel
theorem dX1_readQuestion_19 : decode cX1_readQuestion 19 = .ok (.getfield 18, 3) := by decide +kernel
theorem dX1_readQuestion_22 : decode cX1_readQuestion 22 = .ok (.aload_n 0, 1) := by decide +kernel
theorem dX1_readQuestion_23 : decode cX1_readQuestion 23 = .ok (.getfield 41, 3) := by decide +kernel
theorem dX1_readQuestion_26 : decode cX1_readQuestion 26 = .ok (.aload_n 1, 1) := by decide +kernel
theorem dX1_readQuestion_27 : decode cX1_readQuestion 27 = .ok (.iload_n 2, 1) := by decide +kernel
theorem dX1_readQuestion_28 : decode cX1_readQuestion 28 = .ok (.iconst 1, 1) := by decide +kernel
theorem dX1_readQuestion_29 : decode cX1_readQuestion 29 = .ok (.iadd, 1) := by decide +kernel
theorem dX1_readQuestion_30 : decode cX1_readQuestion 30 = .ok (.iconst 0, 1) := by decide +kernel
theorem dX1_readQuestion_31 : decode cX1_readQuestion 31 = .ok (.iconst 5, 1) := by decide +kernel
theorem dX1_readQuestion_32 : decode cX1_readQuestion 32 = .ok (.invokestatic 75, 3) := by decide +kernel
theorem dX1_readQuestion_35 : decode cX1_readQuestion 35 = .ok (.iastore, 1) := by decide +kernel
theorem dX1_readQuestion_36 : decode cX1_readQuestion 36 = .ok (.aload_n 0, 1) := by decide +kernel
theorem dX1_readQuestion_37 : decode cX1_readQuestion 37 = .ok (.getfield 21, 3) := by decide +kernel
theorem dX1_readQuestion_40 : decode cX1_readQuestion 40 = .ok (.aload_n 0, 1) := by decide +kernel
theorem dX1_readQuestion_41 : decode cX1_readQuestion 41 = .ok (.getfield 41, 3) := by decide +kernel
theorem dX1_readQuestion_44 : decode cX1_readQuestion 44 = .ok (.aload_n 1, 1) := by decide +kernel
theorem dX1_readQuestion_45 : decode cX1_readQuestion 45 = .ok (.iload_n 2, 1) := by decide +kernel
theorem dX1_readQuestion_46 : decode cX1_readQuestion 46 = .ok (.iconst 2, 1) := by decide +kernel
theorem dX1_readQuestion_47 : decode cX1_readQuestion 47 = .ok (.iadd, 1) := by decide +kernel
theorem dX1_readQuestion_48 : decode cX1_readQuestion 48 = .ok (.iconst 0, 1) := by decide +kernel
theorem dX1_readQuestion_49 : decode cX1_readQuestion 49 = .ok (.bipush 9, 2) := by decide +kernel
theorem dX1_readQuestion_51 : decode cX1_readQuestion 51 = .ok (.invokestatic 75, 3) := by decide +kernel
theorem dX1_readQuestion_54 : decode cX1_readQuestion 54 = .ok (.iastore, 1) := by decide +kernel
theorem dX1_readQuestion_55 : decode cX1_readQuestion 55 = .ok (.aload_n 0, 1) := by decide +kernel
theorem dX1_readQuestion_56 : decode cX1_readQuestion 56 = .ok (.getfield 24, 3) := by decide +kernel
theorem dX1_readQuestion_59 : decode cX1_readQuestion 59 = .ok (.aload_n 0, 1) := by decide +kernel
theorem dX1_readQuestion_60 : decode cX1_readQuestion 60 = .ok (.getfield 41, 3) := by decide +kernel
theorem dX1_readQuestion_63 : decode cX1_readQuestion 63 = .ok (.aload_n 1, 1) := by decide +kernel
theorem dX1_readQuestion_64 : decode cX1_readQuestion 64 = .ok (.iload_n 2, 1) := by decide +kernel
theorem dX1_readQuestion_65 : decode cX1_readQuestion 65 = .ok (.iconst 3, 1) := by decide +kernel
theorem dX1_readQuestion_66 : decode cX1_readQuestion 66 = .ok (.iadd, 1) := by decide +kernel
theorem dX1_readQuestion_67 : decode cX1_readQuestion 67 = .ok (.aload_n 0, 1) := by decide +kernel
theorem dX1_readQuestion_68 : decode cX1_readQuestion 68 = .ok (.getfield 21, 3) := by decide +kernel
theorem dX1_readQuestion_71 : decode cX1_readQuestion 71 = .ok (.aload_n 0, 1) := by decide +kernel
theorem dX1_readQuestion_72 : decode cX1_readQuestion 72 = .ok (.getfield 41, 3) := by decide +kernel
theorem dX1_readQuestion_75 : decode cX1_readQuestion 75 = .ok (.iaload, 1) := by decide +kernel
theorem dX1_readQuestion_76 : decode cX1_readQuestion 76 = .ok (.bipush 9, 2) := by decide +kernel
theorem dX1_readQuestion_78 : decode cX1_readQuestion 78 = .ok (.invokestatic 75, 3) := by decide +kernel
theorem dX1_readQuestion_81 : decode cX1_readQuestion 81 = .ok (.iastore, 1) := by decide +kernel
theorem dX1_readQuestion_82 : decode cX1_readQuestion 82 = .ok (.aload_n 0, 1) := by decide +kernel
theorem dX1_readQuestion_83 : decode cX1_readQuestion 83 = .ok (.getfield 27, 3) := by decide +kernel
theorem dX1_readQuestion_86 : decode cX1_readQuestion 86 = .ok (.aload_n 0, 1) := by decide +kernel
theorem dX1_readQuestion_87 : decode cX1_readQuestion 87 = .ok (.getfield 41, 3) := by decide +kernel
theorem dX1_readQuestion_90 : decode cX1_readQuestion 90 = .ok (.aload_n 1, 1) := by decide +kernel
theorem dX1_readQuestion_91 : decode cX1_readQuestion 91 = .ok (.iload_n 2, 1) := by decide +kernel
theorem dX1_readQuestion_92 : decode cX1_readQuestion 92 = .ok (.iconst 4, 1) := by decide +kernel
theorem dX1_readQuestion_93 : decode cX1_readQuestion 93 = .ok (.iadd, 1) := by decide +kernel
theorem dX1_readQuestion_94 : decode cX1_readQuestion 94 = .ok (.iconst 1, 1) := by decide +kernel
theorem dX1_readQuestion_95 : decode cX1_readQuestion 95 = .ok (.bipush 9, 2) := by decide +kernel
theorem dX1_readQuestion_97 : decode cX1_readQuestion 97 = .ok (.invokestatic 75, 3) := by decide +kernel
theorem dX1_readQuestion_100 : decode cX1_readQuestion 100 = .ok (.iastore, 1) := by decide +kernel
theorem dX1_readQuestion_101 : decode cX1_readQuestion 101 = .ok (.aload_n 0, 1) := by decide +kernel
theorem dX1_readQuestion_102 : decode cX1_readQuestion 102 = .ok (.getfield 18, 3) := by decide +kernel
theorem dX1_readQuestion_105 : decode cX1_readQuestion 105 = .ok (.aload_n 0, 1) := by decide +kernel
theorem dX1_readQuestion_106 : decode cX1_readQuestion 106 = .ok (.getfield 41, 3) := by decide +kernel
theorem dX1_readQuestion_109 : decode cX1_readQuestion 109 = .ok (.iaload, 1) := by decide +kernel
theorem dX1_readQuestion_110 : decode cX1_readQuestion 110 = .ok (.bipush (-9), 2) := by decide +kernel
theorem dX1_readQuestion_112 : decode cX1_readQuestion 112 = .ok (.if_icmp .ne 7, 3) := by decide +kernel
theorem dX1_readQuestion_115 : decode cX1_readQuestion 115 = .ok (.iload_n 2, 1) := by decide +kernel
theorem dX1_readQuestion_116 : decode cX1_readQuestion 116 = .ok (.iconst 1, 1) := by decide +kernel
theorem dX1_readQuestion_117 : decode cX1_readQuestion 117 = .ok (.iadd, 1) := by decide +kernel
theorem dX1_readQuestion_118 : decode cX1_readQuestion 118 = .ok (.ireturn, 1) := by decide +kernel
theorem dX1_readQuestion_119 : decode cX1_readQuestion 119 = .ok (.aload_n 0, 1) := by decide +kernel
theorem dX1_readQuestion_120 : decode cX1_readQuestion 120 = .ok (.getfield 21, 3) := by decide +kernel
theorem dX1_readQuestion_123 : decode cX1_readQuestion 123 = .ok (.aload_n 0, 1) := by decide +kernel
theorem dX1_readQuestion_124 : decode cX1_readQuestion 124 = .ok (.getfield 41, 3) := by decide +kernel
theorem dX1_readQuestion_127 : decode cX1_readQuestion 127 = .ok (.iaload, 1) := by decide +kernel
theorem dX1_readQuestion_128 : decode cX1_readQuestion 128 = .ok (.bipush (-9), 2) := by decide +kernel
theorem dX1_readQuestion_130 : decode cX1_readQuestion 130 = .ok (.if_icmp .ne 7, 3) := by decide +kernel
theorem dX1_readQuestion_133 : decode cX1_readQuestion 133 = .ok (.iload_n 2, 1) := by decide +kernel
theorem dX1_readQuestion_134 : decode cX1_readQuestion 134 = .ok (.iconst 2, 1) := by decide +kernel
theorem dX1_readQuestion_135 : decode cX1_readQuestion 135 = .ok (.iadd, 1) := by decide +kernel
theorem dX1_readQuestion_136 : decode cX1_readQuestion 136 = .ok (.ireturn, 1) := by decide +kernel
theorem dX1_readQuestion_137 : decode cX1_readQuestion 137 = .ok (.aload_n 0, 1) := by decide +kernel
theorem dX1_readQuestion_138 : decode cX1_readQuestion 138 = .ok (.getfield 24, 3) := by decide +kernel
theorem dX1_readQuestion_141 : decode cX1_readQuestion 141 = .ok (.aload_n 0, 1) := by decide +kernel
theorem dX1_readQuestion_142 : decode cX1_readQuestion 142 = .ok (.getfield 41, 3) := by decide +kernel
theorem dX1_readQuestion_145 : decode cX1_readQuestion 145 = .ok (.iaload, 1) := by decide +kernel
theorem dX1_readQuestion_146 : decode cX1_readQuestion 146 = .ok (.bipush (-9), 2) := by decide +kernel
theorem dX1_readQuestion_148 : decode cX1_readQuestion 148 = .ok (.if_icmp .ne 7, 3) := by decide +kernel
theorem dX1_readQuestion_151 : decode cX1_readQuestion 151 = .ok (.iload_n 2, 1) := by decide +kernel
theorem dX1_readQuestion_152 : decode cX1_readQuestion 152 = .ok (.iconst 3, 1) := by decide +kernel
theorem dX1_readQuestion_153 : decode cX1_readQuestion 153 = .ok (.iadd, 1) := by decide +kernel
theorem dX1_readQuestion_154 : decode cX1_readQuestion 154 = .ok (.ireturn, 1) := by decide +kernel
theorem dX1_readQuestion_155 : decode cX1_readQuestion 155 = .ok (.aload_n 0, 1) := by decide +kernel
theorem dX1_readQuestion_156 : decode cX1_readQuestion 156 = .ok (.getfield 27, 3) := by decide +kernel
theorem dX1_readQuestion_159 : decode cX1_readQuestion 159 = .ok (.aload_n 0, 1) := by decide +kernel
theorem dX1_readQuestion_160 : decode cX1_readQuestion 160 = .ok (.getfield 41, 3) := by decide +kernel
theorem dX1_readQuestion_163 : decode cX1_readQuestion 163 = .ok (.iaload, 1) := by decide +kernel
theorem dX1_readQuestion_164 : decode cX1_readQuestion 164 = .ok (.bipush (-9), 2) := by decide +kernel
theorem dX1_readQuestion_166 : decode cX1_readQuestion 166 = .ok (.if_icmp .ne 7, 3) := by decide +kernel
theorem dX1_readQuestion_169 : decode cX1_readQuestion 169 = .ok (.iload_n 2, 1) := by decide +kernel
theorem dX1_readQuestion_170 : decode cX1_readQuestion 170 = .ok (.iconst 4, 1) := by decide +kernel
theorem dX1_readQuestion_171 : decode cX1_readQuestion 171 = .ok (.iadd, 1) := by decide +kernel
theorem dX1_readQuestion_172 : decode cX1_readQuestion 172 = .ok (.ireturn, 1) := by decide +kernel
theorem dX1_readQuestion_173 : decode cX1_readQuestion 173 = .ok (.aload_n 0, 1) := by decide +kernel
theorem dX1_readQuestion_174 : decode cX1_readQuestion 174 = .ok (.dup, 1) := by decide +kernel
theorem dX1_readQuestion_175 : decode cX1_readQuestion 175 = .ok (.getfield 41, 3) := by decide +kernel
theorem dX1_readQuestion_178 : decode cX1_readQuestion 178 = .ok (.iconst 1, 1) := by decide +kernel
theorem dX1_readQuestion_179 : decode cX1_readQuestion 179 = .ok (.iadd, 1) := by decide +kernel
theorem dX1_readQuestion_180 : decode cX1_readQuestion 180 = .ok (.putfield 41, 3) := by decide +kernel
theorem dX1_readQuestion_183 : decode cX1_readQuestion 183 = .ok (.bipush (-9), 2) := by decide +kernel
theorem dX1_readQuestion_185 : decode cX1_readQuestion 185 = .ok (.ireturn, 1) := by decide +kernel
def F_X1_readQuestion (n : Nat) (S : aSt) (a0 : Nat) (a1 : Nat) (a2 : Int32) : Option (Int32 × aSt) :=
jn (fun (j16S : aSt) => (some (a2, j16S) : Option (Int32 × aSt))) fun K16 =>
if (S.1 a0 7) = 0 then (K16 S) else
if (S.1 a0 8) < (7 : Int32) then (rfd (S.2.2 a0 2) 7 fun k19 =>
(F_X1_figure n S a1 (a2 + (1 : Int32)) (0 : Int32) (5 : Int32)).bind fun r32 =>
grd (inb (S.1 a0 8) (SH k19).2) <|
nm (stI S k19 (S.1 a0 8).toNatClampNeg r32) fun S35 =>
rfd (S35.2.2 a0 3) 7 fun k37 =>
(F_X1_figure n S35 a1 (a2 + (2 : Int32)) (0 : Int32) (9 : Int32)).bind fun r51 =>
grd (inb (S35.1 a0 8) (SH k37).2) <|
nm (stI S35 k37 (S35.1 a0 8).toNatClampNeg r51) fun S54 =>
rfd (S54.2.2 a0 4) 7 fun k56 =>
rfd (S54.2.2 a0 3) 7 fun k68 =>
grd (inb (S54.1 a0 8) (SH k68).2) <|
(F_X1_figure n S54 a1 (a2 + (3 : Int32)) (S54.1 k68 (S54.1 a0 8).toNatClampNeg) (9 : Int32)).bind fun r78 =>
grd (inb (S54.1 a0 8) (SH k56).2) <|
nm (stI S54 k56 (S54.1 a0 8).toNatClampNeg r78) fun S81 =>
rfd (S81.2.2 a0 5) 7 fun k83 =>
(F_X1_figure n S81 a1 (a2 + (4 : Int32)) (1 : Int32) (9 : Int32)).bind fun r97 =>
grd (inb (S81.1 a0 8) (SH k83).2) <|
nm (stI S81 k83 (S81.1 a0 8).toNatClampNeg r97) fun S100 =>
rfd (S100.2.2 a0 2) 7 fun k102 =>
grd (inb (S100.1 a0 8) (SH k102).2) <|
if (S100.1 k102 (S100.1 a0 8).toNatClampNeg) = (-9 : Int32) then (some ((a2 + (1 : Int32)), S100)) else
rfd (S100.2.2 a0 3) 7 fun k120 =>
grd (inb (S100.1 a0 8) (SH k120).2) <|
if (S100.1 k120 (S100.1 a0 8).toNatClampNeg) = (-9 : Int32) then (some ((a2 + (2 : Int32)), S100)) else
rfd (S100.2.2 a0 4) 7 fun k138 =>
grd (inb (S100.1 a0 8) (SH k138).2) <|
if (S100.1 k138 (S100.1 a0 8).toNatClampNeg) = (-9 : Int32) then (some ((a2 + (3 : Int32)), S100)) else
rfd (S100.2.2 a0 5) 7 fun k156 =>
grd (inb (S100.1 a0 8) (SH k156).2) <|
if (S100.1 k156 (S100.1 a0 8).toNatClampNeg) = (-9 : Int32) then (some ((a2 + (4 : Int32)), S100)) else
nm (stI S100 a0 8 ((S100.1 a0 8) + (1 : Int32))) fun S180 =>
some ((-9 : Int32), S180)) else
K16 S
set_option maxHeartbeats 4000000 in
set_option maxRecDepth 100000 in
theorem C_X1_readQuestion (G : aG) (l : Launch) (n : Nat) (S : aSt) (a0 : Nat) (a1 : Nat) (a2 : Int32) (r : Int32) (Sr : aSt) (ha0 : isT a0 0 = true) (ha1 : isT a1 3 = true) (hf : F_X1_readQuestion n S a0 a1 a2 = some (r, Sr)) : Ctr G l yX1_readQuestion mX1_readQuestion (rmM 3) 97 97 S [.ref a0, .ref a1, .int a2] (some (.int r)) Sr := by
  refine Ctr.of (by decide) rfl rfl (Nat.le_of_ble_eq_true rfl) [(0, .ref a0), (1, .ref a1), (2, .int a2)] rfl ?_
  unfold F_X1_readQuestion at hf
  refine Go.aload_n 0 1 rfl dX1_readQuestion_0 rfl ?_
  refine Go.getI 4 rfl dX1_readQuestion_1 fl_X1_37 rfl (isT_lt ha0) (isT_sh ha0) ?_
  obtain ⟨K16, eK16, hf⟩ := f_jn hf
  have J16 : ∀ (j16S : aSt), K16 j16S = some (r, Sr) → GoM G l 3 (TmR G (some (.int r)) 97 Sr 0 0) mX1_readQuestion 16 [(2, .int a2)] [] j16S := by
    intro j16S hf
    rw [eK16] at hf
    refine Go.iload_n 0 17 rfl dX1_readQuestion_16 rfl ?_
    exact Go.irS rfl dX1_readQuestion_17 hf
  clear eK16
  refine Go.if_eq 16 7 rfl dX1_readQuestion_4 rfl (fun hc => ?_) (fun hc => ?_)
  · replace hf := f_if hf hc
    exact Go.sub [2] [(2, .int a2)] rfl (J16 S hf)
  · replace hf := f_el hf hc
    refine Go.aload_n 0 8 rfl dX1_readQuestion_7 rfl ?_
    refine Go.getI 11 rfl dX1_readQuestion_8 fl_X1_41 rfl (isT_lt ha0) (isT_sh ha0) ?_
    refine Go.bipush (7 : Int32) 13 rfl dX1_readQuestion_11 cb_7 ?_
    refine Go.icmp_lt 18 16 rfl dX1_readQuestion_13 rfl (fun hc => ?_) (fun hc => ?_)
    · replace hf := f_if hf hc
      refine Go.aload_n 0 19 rfl dX1_readQuestion_18 rfl ?_
      obtain ⟨k19, qk19, hk19, hf⟩ := f_rfd hf
      refine Go.getR 22 rfl dX1_readQuestion_19 fl_X1_18 rfl (isT_lt ha0) (isT_sh ha0) qk19 ?_
      refine Go.aload_n 0 23 rfl dX1_readQuestion_22 rfl ?_
      refine Go.getI 26 rfl dX1_readQuestion_23 fl_X1_41 rfl (isT_lt ha0) (isT_sh ha0) ?_
      refine Go.aload_n 1 27 rfl dX1_readQuestion_26 rfl ?_
      refine Go.iload_n 2 28 rfl dX1_readQuestion_27 rfl ?_
      refine Go.iconst (1 : Int32) 29 rfl dX1_readQuestion_28 ci_1 ?_
      refine Go.iadd 30 rfl dX1_readQuestion_29 ?_
      refine Go.iconst (0 : Int32) 31 rfl dX1_readQuestion_30 ci_0 ?_
      refine Go.iconst (5 : Int32) 32 rfl dX1_readQuestion_31 ci_5 ?_
      obtain ⟨r32, er32, hf⟩ := f_bnd hf
      refine Go.cS 35 [.ref a1, .int (a2 + (1 : Int32)), .int (0 : Int32), .int (5 : Int32)] [.int (S.1 a0 8), .ref k19] (C_X1_figure G l n S a1 (a2 + (1 : Int32)) (0 : Int32) (5 : Int32) r32 ha1 er32) rfl dX1_readQuestion_32 cx_X1_75 (by decide) (by decide) rfl (Nat.le_of_ble_eq_true rfl) ?_
      obtain ⟨g35, hf⟩ := f_grd hf
      obtain ⟨S35, eS35, hf⟩ := f_nm hf
      refine Go.iast 36 rfl dX1_readQuestion_35 (isT_lt hk19) (isT_sh hk19) g35 (Go.stt S35 eS35 ?_)
      refine Go.aload_n 0 37 rfl dX1_readQuestion_36 rfl ?_
      obtain ⟨k37, qk37, hk37, hf⟩ := f_rfd hf
      refine Go.getR 40 rfl dX1_readQuestion_37 fl_X1_21 rfl (isT_lt ha0) (isT_sh ha0) qk37 ?_
      refine Go.aload_n 0 41 rfl dX1_readQuestion_40 rfl ?_
      refine Go.getI 44 rfl dX1_readQuestion_41 fl_X1_41 rfl (isT_lt ha0) (isT_sh ha0) ?_
      refine Go.aload_n 1 45 rfl dX1_readQuestion_44 rfl ?_
      refine Go.iload_n 2 46 rfl dX1_readQuestion_45 rfl ?_
      refine Go.iconst (2 : Int32) 47 rfl dX1_readQuestion_46 ci_2 ?_
      refine Go.iadd 48 rfl dX1_readQuestion_47 ?_
      refine Go.iconst (0 : Int32) 49 rfl dX1_readQuestion_48 ci_0 ?_
      refine Go.bipush (9 : Int32) 51 rfl dX1_readQuestion_49 cb_9 ?_
      obtain ⟨r51, er51, hf⟩ := f_bnd hf
      refine Go.cS 54 [.ref a1, .int (a2 + (2 : Int32)), .int (0 : Int32), .int (9 : Int32)] [.int (S35.1 a0 8), .ref k37] (C_X1_figure G l n S35 a1 (a2 + (2 : Int32)) (0 : Int32) (9 : Int32) r51 ha1 er51) rfl dX1_readQuestion_51 cx_X1_75 (by decide) (by decide) rfl (Nat.le_of_ble_eq_true rfl) ?_
      obtain ⟨g54, hf⟩ := f_grd hf
      obtain ⟨S54, eS54, hf⟩ := f_nm hf
      refine Go.iast 55 rfl dX1_readQuestion_54 (isT_lt hk37) (isT_sh hk37) g54 (Go.stt S54 eS54 ?_)
      refine Go.aload_n 0 56 rfl dX1_readQuestion_55 rfl ?_
      obtain ⟨k56, qk56, hk56, hf⟩ := f_rfd hf
      refine Go.getR 59 rfl dX1_readQuestion_56 fl_X1_24 rfl (isT_lt ha0) (isT_sh ha0) qk56 ?_
      refine Go.aload_n 0 60 rfl dX1_readQuestion_59 rfl ?_
      refine Go.getI 63 rfl dX1_readQuestion_60 fl_X1_41 rfl (isT_lt ha0) (isT_sh ha0) ?_
      refine Go.aload_n 1 64 rfl dX1_readQuestion_63 rfl ?_
      refine Go.iload_n 2 65 rfl dX1_readQuestion_64 rfl ?_
      refine Go.iconst (3 : Int32) 66 rfl dX1_readQuestion_65 ci_3 ?_
      refine Go.iadd 67 rfl dX1_readQuestion_66 ?_
      refine Go.aload_n 0 68 rfl dX1_readQuestion_67 rfl ?_
      obtain ⟨k68, qk68, hk68, hf⟩ := f_rfd hf
      refine Go.getR 71 rfl dX1_readQuestion_68 fl_X1_21 rfl (isT_lt ha0) (isT_sh ha0) qk68 ?_
      refine Go.aload_n 0 72 rfl dX1_readQuestion_71 rfl ?_
      refine Go.getI 75 rfl dX1_readQuestion_72 fl_X1_41 rfl (isT_lt ha0) (isT_sh ha0) ?_
      obtain ⟨g75, hf⟩ := f_grd hf
      refine Go.iald 76 rfl dX1_readQuestion_75 (isT_lt hk68) (isT_sh hk68) g75 ?_
      refine Go.bipush (9 : Int32) 78 rfl dX1_readQuestion_76 cb_9 ?_
      obtain ⟨r78, er78, hf⟩ := f_bnd hf
      refine Go.cS 81 [.ref a1, .int (a2 + (3 : Int32)), .int (S54.1 k68 (S54.1 a0 8).toNatClampNeg), .int (9 : Int32)] [.int (S54.1 a0 8), .ref k56] (C_X1_figure G l n S54 a1 (a2 + (3 : Int32)) (S54.1 k68 (S54.1 a0 8).toNatClampNeg) (9 : Int32) r78 ha1 er78) rfl dX1_readQuestion_78 cx_X1_75 (by decide) (by decide) rfl (Nat.le_of_ble_eq_true rfl) ?_
      obtain ⟨g81, hf⟩ := f_grd hf
      obtain ⟨S81, eS81, hf⟩ := f_nm hf
      refine Go.iast 82 rfl dX1_readQuestion_81 (isT_lt hk56) (isT_sh hk56) g81 (Go.stt S81 eS81 ?_)
      refine Go.aload_n 0 83 rfl dX1_readQuestion_82 rfl ?_
      obtain ⟨k83, qk83, hk83, hf⟩ := f_rfd hf
      refine Go.getR 86 rfl dX1_readQuestion_83 fl_X1_27 rfl (isT_lt ha0) (isT_sh ha0) qk83 ?_
      refine Go.aload_n 0 87 rfl dX1_readQuestion_86 rfl ?_
      refine Go.getI 90 rfl dX1_readQuestion_87 fl_X1_41 rfl (isT_lt ha0) (isT_sh ha0) ?_
      refine Go.aload_n 1 91 rfl dX1_readQuestion_90 rfl ?_
      refine Go.iload_n 2 92 rfl dX1_readQuestion_91 rfl ?_
      refine Go.iconst (4 : Int32) 93 rfl dX1_readQuestion_92 ci_4 ?_
      refine Go.iadd 94 rfl dX1_readQuestion_93 ?_
      refine Go.iconst (1 : Int32) 95 rfl dX1_readQuestion_94 ci_1 ?_
      refine Go.bipush (9 : Int32) 97 rfl dX1_readQuestion_95 cb_9 ?_
      obtain ⟨r97, er97, hf⟩ := f_bnd hf
      refine Go.cS 100 [.ref a1, .int (a2 + (4 : Int32)), .int (1 : Int32), .int (9 : Int32)] [.int (S81.1 a0 8), .ref k83] (C_X1_figure G l n S81 a1 (a2 + (4 : Int32)) (1 : Int32) (9 : Int32) r97 ha1 er97) rfl dX1_readQuestion_97 cx_X1_75 (by decide) (by decide) rfl (Nat.le_of_ble_eq_true rfl) ?_
      obtain ⟨g100, hf⟩ := f_grd hf
      obtain ⟨S100, eS100, hf⟩ := f_nm hf
      refine Go.iast 101 rfl dX1_readQuestion_100 (isT_lt hk83) (isT_sh hk83) g100 (Go.stt S100 eS100 ?_)
      refine Go.aload_n 0 102 rfl dX1_readQuestion_101 rfl ?_
      obtain ⟨k102, qk102, hk102, hf⟩ := f_rfd hf
      refine Go.getR 105 rfl dX1_readQuestion_102 fl_X1_18 rfl (isT_lt ha0) (isT_sh ha0) qk102 ?_
      refine Go.aload_n 0 106 rfl dX1_readQuestion_105 rfl ?_
      refine Go.getI 109 rfl dX1_readQuestion_106 fl_X1_41 rfl (isT_lt ha0) (isT_sh ha0) ?_
      obtain ⟨g109, hf⟩ := f_grd hf
      refine Go.iald 110 rfl dX1_readQuestion_109 (isT_lt hk102) (isT_sh hk102) g109 ?_
      refine Go.bipush (-9 : Int32) 112 rfl dX1_readQuestion_110 cb_m9 ?_
      refine Go.icmp_ne 119 115 rfl dX1_readQuestion_112 rfl (fun hc => ?_) (fun hc => ?_)
      · replace hf := f_el hf hc
        refine Go.aload_n 0 120 rfl dX1_readQuestion_119 rfl ?_
        obtain ⟨k120, qk120, hk120, hf⟩ := f_rfd hf
        refine Go.getR 123 rfl dX1_readQuestion_120 fl_X1_21 rfl (isT_lt ha0) (isT_sh ha0) qk120 ?_
        refine Go.aload_n 0 124 rfl dX1_readQuestion_123 rfl ?_
        refine Go.getI 127 rfl dX1_readQuestion_124 fl_X1_41 rfl (isT_lt ha0) (isT_sh ha0) ?_
        obtain ⟨g127, hf⟩ := f_grd hf
        refine Go.iald 128 rfl dX1_readQuestion_127 (isT_lt hk120) (isT_sh hk120) g127 ?_
        refine Go.bipush (-9 : Int32) 130 rfl dX1_readQuestion_128 cb_m9 ?_
        refine Go.icmp_ne 137 133 rfl dX1_readQuestion_130 rfl (fun hc => ?_) (fun hc => ?_)
        · replace hf := f_el hf hc
          refine Go.aload_n 0 138 rfl dX1_readQuestion_137 rfl ?_
          obtain ⟨k138, qk138, hk138, hf⟩ := f_rfd hf
          refine Go.getR 141 rfl dX1_readQuestion_138 fl_X1_24 rfl (isT_lt ha0) (isT_sh ha0) qk138 ?_
          refine Go.aload_n 0 142 rfl dX1_readQuestion_141 rfl ?_
          refine Go.getI 145 rfl dX1_readQuestion_142 fl_X1_41 rfl (isT_lt ha0) (isT_sh ha0) ?_
          obtain ⟨g145, hf⟩ := f_grd hf
          refine Go.iald 146 rfl dX1_readQuestion_145 (isT_lt hk138) (isT_sh hk138) g145 ?_
          refine Go.bipush (-9 : Int32) 148 rfl dX1_readQuestion_146 cb_m9 ?_
          refine Go.icmp_ne 155 151 rfl dX1_readQuestion_148 rfl (fun hc => ?_) (fun hc => ?_)
          · replace hf := f_el hf hc
            refine Go.aload_n 0 156 rfl dX1_readQuestion_155 rfl ?_
            obtain ⟨k156, qk156, hk156, hf⟩ := f_rfd hf
            refine Go.getR 159 rfl dX1_readQuestion_156 fl_X1_27 rfl (isT_lt ha0) (isT_sh ha0) qk156 ?_
            refine Go.aload_n 0 160 rfl dX1_readQuestion_159 rfl ?_
            refine Go.getI 163 rfl dX1_readQuestion_160 fl_X1_41 rfl (isT_lt ha0) (isT_sh ha0) ?_
            obtain ⟨g163, hf⟩ := f_grd hf
            refine Go.iald 164 rfl dX1_readQuestion_163 (isT_lt hk156) (isT_sh hk156) g163 ?_
            refine Go.bipush (-9 : Int32) 166 rfl dX1_readQuestion_164 cb_m9 ?_
            refine Go.icmp_ne 173 169 rfl dX1_readQuestion_166 rfl (fun hc => ?_) (fun hc => ?_)
            · replace hf := f_el hf hc
              refine Go.aload_n 0 174 rfl dX1_readQuestion_173 rfl ?_
              refine Go.dup 175 rfl dX1_readQuestion_174 rfl ?_
              refine Go.getI 178 rfl dX1_readQuestion_175 fl_X1_41 rfl (isT_lt ha0) (isT_sh ha0) ?_
              refine Go.iconst (1 : Int32) 179 rfl dX1_readQuestion_178 ci_1 ?_
              refine Go.iadd 180 rfl dX1_readQuestion_179 ?_
              obtain ⟨S180, eS180, hf⟩ := f_nm hf
              refine Go.putI 183 rfl dX1_readQuestion_180 fp_X1_41 rfl (isT_lt ha0) (isT_sh ha0) (fun h => by cases h) (Go.stt S180 eS180 ?_)
              refine Go.bipush (-9 : Int32) 185 rfl dX1_readQuestion_183 cb_m9 ?_
              exact Go.irS rfl dX1_readQuestion_185 hf
            · replace hf := f_if hf hc
              refine Go.iload_n 2 170 rfl dX1_readQuestion_169 rfl ?_
              refine Go.iconst (4 : Int32) 171 rfl dX1_readQuestion_170 ci_4 ?_
              refine Go.iadd 172 rfl dX1_readQuestion_171 ?_
              exact Go.irS rfl dX1_readQuestion_172 hf
          · replace hf := f_if hf hc
            refine Go.iload_n 2 152 rfl dX1_readQuestion_151 rfl ?_
            refine Go.iconst (3 : Int32) 153 rfl dX1_readQuestion_152 ci_3 ?_
            refine Go.iadd 154 rfl dX1_readQuestion_153 ?_
            exact Go.irS rfl dX1_readQuestion_154 hf
        · replace hf := f_if hf hc
          refine Go.iload_n 2 134 rfl dX1_readQuestion_133 rfl ?_
          refine Go.iconst (2 : Int32) 135 rfl dX1_readQuestion_134 ci_2 ?_
          refine Go.iadd 136 rfl dX1_readQuestion_135 ?_
          exact Go.irS rfl dX1_readQuestion_136 hf
      · replace hf := f_if hf hc
        refine Go.iload_n 2 116 rfl dX1_readQuestion_115 rfl ?_
        refine Go.iconst (1 : Int32) 117 rfl dX1_readQuestion_116 ci_1 ?_
        refine Go.iadd 118 rfl dX1_readQuestion_117 ?_
        exact Go.irS rfl dX1_readQuestion_118 hf
    · replace hf := f_el hf hc
      exact Go.sub [2] [(2, .int a2)] rfl (J16 S hf)
theorem dX1_readFrom_0 : decode cX1_readFrom 0 = .ok (.aload_n 0, 1) := by decide +kernel
theorem dX1_readFrom_1 : decode cX1_readFrom 1 = .ok (.iconst 0, 1) := by decide +kernel
theorem dX1_readFrom_2 : decode cX1_readFrom 2 = .ok (.putfield 37, 3) := by decide +kernel
theorem dX1_readFrom_5 : decode cX1_readFrom 5 = .ok (.aload_n 0, 1) := by decide +kernel
theorem dX1_readFrom_6 : decode cX1_readFrom 6 = .ok (.iconst 0, 1) := by decide +kernel
theorem dX1_readFrom_7 : decode cX1_readFrom 7 = .ok (.putfield 41, 3) := by decide +kernel
theorem dX1_readFrom_10 : decode cX1_readFrom 10 = .ok (.aload_n 0, 1) := by decide +kernel
theorem dX1_readFrom_11 : decode cX1_readFrom 11 = .ok (.getfield 33, 3) := by decide +kernel
theorem dX1_readFrom_14 : decode cX1_readFrom 14 = .ok (.invokevirtual 44, 3) := by decide +kernel
theorem dX1_readFrom_17 : decode cX1_readFrom 17 = .ok (.iconst 0, 1) := by decide +kernel
theorem dX1_readFrom_18 : decode cX1_readFrom 18 = .ok (.istore_n 2, 1) := by decide +kernel
theorem dX1_readFrom_19 : decode cX1_readFrom 19 = .ok (.iconst 0, 1) := by decide +kernel
theorem dX1_readFrom_20 : decode cX1_readFrom 20 = .ok (.istore_n 3, 1) := by decide +kernel
theorem dX1_readFrom_21 : decode cX1_readFrom 21 = .ok (.iload_n 3, 1) := by decide +kernel
theorem dX1_readFrom_22 : decode cX1_readFrom 22 = .ok (.aload_n 1, 1) := by decide +kernel
theorem dX1_readFrom_23 : decode cX1_readFrom 23 = .ok (.getfield 47, 3) := by decide +kernel
theorem dX1_readFrom_26 : decode cX1_readFrom 26 = .ok (.if_icmp .gt 103, 3) := by decide +kernel
theorem dX1_readFrom_29 : decode cX1_readFrom 29 = .ok (.aload_n 1, 1) := by decide +kernel
theorem dX1_readFrom_30 : decode cX1_readFrom 30 = .ok (.iload_n 2, 1) := by decide +kernel
theorem dX1_readFrom_31 : decode cX1_readFrom 31 = .ok (.invokestatic 52, 3) := by decide +kernel
theorem dX1_readFrom_34 : decode cX1_readFrom 34 = .ok (.istore_n 2, 1) := by decide +kernel
theorem dX1_readFrom_35 : decode cX1_readFrom 35 = .ok (.aload_n 1, 1) := by decide +kernel
theorem dX1_readFrom_36 : decode cX1_readFrom 36 = .ok (.iload_n 2, 1) := by decide +kernel
theorem dX1_readFrom_37 : decode cX1_readFrom 37 = .ok (.invokevirtual 56, 3) := by decide +kernel
theorem dX1_readFrom_40 : decode cX1_readFrom 40 = .ok (.ifCond .ne 20, 3) := by decide +kernel
theorem dX1_readFrom_43 : decode cX1_readFrom 43 = .ok (.aload_n 0, 1) := by decide +kernel
theorem dX1_readFrom_44 : decode cX1_readFrom 44 = .ok (.getfield 37, 3) := by decide +kernel
theorem dX1_readFrom_47 : decode cX1_readFrom 47 = .ok (.ifCond .ne 10, 3) := by decide +kernel
theorem dX1_readFrom_50 : decode cX1_readFrom 50 = .ok (.aload_n 1, 1) := by decide +kernel
theorem dX1_readFrom_51 : decode cX1_readFrom 51 = .ok (.getfield 47, 3) := by decide +kernel
theorem dX1_readFrom_54 : decode cX1_readFrom 54 = .ok (.goto 5, 3) := by decide +kernel
theorem dX1_readFrom_57 : decode cX1_readFrom 57 = .ok (.bipush (-9), 2) := by decide +kernel
theorem dX1_readFrom_59 : decode cX1_readFrom 59 = .ok (.ireturn, 1) := by decide +kernel
theorem dX1_readFrom_60 : decode cX1_readFrom 60 = .ok (.aload_n 1, 1) := by decide +kernel
theorem dX1_readFrom_61 : decode cX1_readFrom 61 = .ok (.getfield 60, 3) := by decide +kernel
theorem dX1_readFrom_64 : decode cX1_readFrom 64 = .ok (.iload_n 2, 1) := by decide +kernel
theorem dX1_readFrom_65 : decode cX1_readFrom 65 = .ok (.iaload, 1) := by decide +kernel
theorem dX1_readFrom_66 : decode cX1_readFrom 66 = .ok (.bipush 113, 2) := by decide +kernel
theorem dX1_readFrom_68 : decode cX1_readFrom 68 = .ok (.if_icmp .ne 7, 3) := by decide +kernel
theorem dX1_readFrom_71 : decode cX1_readFrom 71 = .ok (.iconst 1, 1) := by decide +kernel
theorem dX1_readFrom_72 : decode cX1_readFrom 72 = .ok (.goto 4, 3) := by decide +kernel
theorem dX1_readFrom_75 : decode cX1_readFrom 75 = .ok (.iconst 0, 1) := by decide +kernel
theorem dX1_readFrom_76 : decode cX1_readFrom 76 = .ok (.istore 4, 2) := by decide +kernel
theorem dX1_readFrom_78 : decode cX1_readFrom 78 = .ok (.iload 4, 2) := by decide +kernel
theorem dX1_readFrom_80 : decode cX1_readFrom 80 = .ok (.ifCond .eq 12, 3) := by decide +kernel
theorem dX1_readFrom_83 : decode cX1_readFrom 83 = .ok (.aload_n 0, 1) := by decide +kernel
theorem dX1_readFrom_84 : decode cX1_readFrom 84 = .ok (.aload_n 1, 1) := by decide +kernel
theorem dX1_readFrom_85 : decode cX1_readFrom 85 = .ok (.iload_n 2, 1) := by decide +kernel
theorem dX1_readFrom_86 : decode cX1_readFrom 86 = .ok (.invokevirtual 63, 3) := by decide +kernel
theorem dX1_readFrom_89 : decode cX1_readFrom 89 = .ok (.goto 9, 3) := by decide +kernel
theorem dX1_readFrom_92 : decode cX1_readFrom 92 = .ok (.aload_n 0, 1) := by decide +kernel
theorem dX1_readFrom_93 : decode cX1_readFrom 93 = .ok (.aload_n 1, 1) := by decide +kernel
theorem dX1_readFrom_94 : decode cX1_readFrom 94 = .ok (.iload_n 2, 1) := by decide +kernel
theorem dX1_readFrom_95 : decode cX1_readFrom 95 = .ok (.invokevirtual 66, 3) := by decide +kernel
theorem dX1_readFrom_98 : decode cX1_readFrom 98 = .ok (.istore 5, 2) := by decide +kernel
theorem dX1_readFrom_100 : decode cX1_readFrom 100 = .ok (.iload 5, 2) := by decide +kernel
theorem dX1_readFrom_102 : decode cX1_readFrom 102 = .ok (.bipush (-9), 2) := by decide +kernel
theorem dX1_readFrom_104 : decode cX1_readFrom 104 = .ok (.if_icmp .eq 6, 3) := by decide +kernel
theorem dX1_readFrom_107 : decode cX1_readFrom 107 = .ok (.iload 5, 2) := by decide +kernel
theorem dX1_readFrom_109 : decode cX1_readFrom 109 = .ok (.ireturn, 1) := by decide +kernel
theorem dX1_readFrom_110 : decode cX1_readFrom 110 = .ok (.iload_n 2, 1) := by decide +kernel
theorem dX1_readFrom_111 : decode cX1_readFrom 111 = .ok (.iload 4, 2) := by decide +kernel
theorem dX1_readFrom_113 : decode cX1_readFrom 113 = .ok (.ifCond .eq 7, 3) := by decide +kernel
theorem dX1_readFrom_116 : decode cX1_readFrom 116 = .ok (.iconst 5, 1) := by decide +kernel
theorem dX1_readFrom_117 : decode cX1_readFrom 117 = .ok (.goto 4, 3) := by decide +kernel
theorem dX1_readFrom_120 : decode cX1_readFrom 120 = .ok (.iconst 4, 1) := by decide +kernel
theorem dX1_readFrom_121 : decode cX1_readFrom 121 = .ok (.iadd, 1) := by decide +kernel
theorem dX1_readFrom_122 : decode cX1_readFrom 122 = .ok (.istore_n 2, 1) := by decide +kernel
theorem dX1_readFrom_123 : decode cX1_readFrom 123 = .ok (.iinc 3 1, 3) := by decide +kernel
theorem dX1_readFrom_126 : decode cX1_readFrom 126 = .ok (.goto (-105), 3) := by decide +kernel
theorem dX1_readFrom_129 : decode cX1_readFrom 129 = .ok (.aload_n 1, 1) := by decide +kernel
theorem dX1_readFrom_130 : decode cX1_readFrom 130 = .ok (.getfield 47, 3) := by decide +kernel
theorem dX1_readFrom_133 : decode cX1_readFrom 133 = .ok (.ireturn, 1) := by decide +kernel
def F_X1_readFrom_L21 (n : Nat) (a0 : Nat) (a1 : Nat) (K129 : aSt → Option (Int32 × aSt)) : Nat → Int32 → Int32 → aSt → Option (Int32 × aSt)
  | 0, _, _, _ => none
  | fu + 1, l21_2, l21_3, l21S =>
    if (l21S.1 a1 1) < l21_3 then (K129 l21S) else
    (F_X1_pastBlanks n l21S a1 l21_2).bind fun r31 =>
    (F_X4_reaches n l21S a1 r31).bind fun r37 =>
    if r37 = 0 then (if (l21S.1 a0 7) = 0 then (some ((l21S.1 a1 1), l21S)) else
    some ((-9 : Int32), l21S)) else
    rfd (l21S.2.2 a1 0) 7 fun k61 =>
    grd (inb r31 (SH k61).2) <|
    jn (fun (j76s0 : Int32) => (jn (fun (j98s0 : Int32) (j98S : aSt) => (if j98s0 = (-9 : Int32) then (jn (fun (j121s1 : Int32) => (nm (r31 + j121s1) fun v122 =>
    F_X1_readFrom_L21 n a0 a1 K129 fu v122 (l21_3 + (1 : Int32)) j98S : Option (Int32 × aSt))) fun K121 =>
    if j76s0 = 0 then (K121 (4 : Int32)) else
    K121 (5 : Int32)) else
    some (j98s0, j98S) : Option (Int32 × aSt))) fun K98 =>
    if j76s0 = 0 then (bn2 (F_X1_readCard n l21S a0 a1 r31) fun r95 S95 =>
    K98 r95 S95) else
    bn2 (F_X1_readQuestion n l21S a0 a1 r31) fun r86 S86 =>
    K98 r86 S86 : Option (Int32 × aSt))) fun K76 =>
    if (l21S.1 k61 r31.toNatClampNeg) = (113 : Int32) then (K76 (1 : Int32)) else
    K76 (0 : Int32)
def F_X1_readFrom (n : Nat) (S : aSt) (a0 : Nat) (a1 : Nat) : Option (Int32 × aSt) :=
nm (stI S a0 7 (0 : Int32)) fun S2 =>
nm (stI S2 a0 8 (0 : Int32)) fun S7 =>
rfd (S7.2.2 a0 6) 4 fun k11 =>
(F_X5_begin n S7 k11).bind fun S14 =>
jn (fun (x129S : aSt) => (some ((x129S.1 a1 1), x129S) : Option (Int32 × aSt))) fun K129 =>
F_X1_readFrom_L21 n a0 a1 K129 n (0 : Int32) (0 : Int32) S14
set_option maxHeartbeats 4000000 in
set_option maxRecDepth 100000 in
theorem C_X1_readFrom (G : aG) (l : Launch) (n : Nat) (S : aSt) (a0 : Nat) (a1 : Nat) (r : Int32) (Sr : aSt) (ha0 : isT a0 0 = true) (ha1 : isT a1 3 = true) (hf : F_X1_readFrom n S a0 a1 = some (r, Sr)) : Ctr G l yX1_readFrom mX1_readFrom (rmM 4) 97 97 S [.ref a0, .ref a1] (some (.int r)) Sr := by
  refine Ctr.of (by decide) rfl rfl (Nat.le_of_ble_eq_true rfl) [(0, .ref a0), (1, .ref a1)] rfl ?_
  unfold F_X1_readFrom at hf
  refine Go.aload_n 0 1 rfl dX1_readFrom_0 rfl ?_
  refine Go.iconst (0 : Int32) 2 rfl dX1_readFrom_1 ci_0 ?_
  obtain ⟨S2, eS2, hf⟩ := f_nm hf
  refine Go.putI 5 rfl dX1_readFrom_2 fp_X1_37 rfl (isT_lt ha0) (isT_sh ha0) (fun h => by cases h) (Go.stt S2 eS2 ?_)
  refine Go.aload_n 0 6 rfl dX1_readFrom_5 rfl ?_
  refine Go.iconst (0 : Int32) 7 rfl dX1_readFrom_6 ci_0 ?_
  obtain ⟨S7, eS7, hf⟩ := f_nm hf
  refine Go.putI 10 rfl dX1_readFrom_7 fp_X1_41 rfl (isT_lt ha0) (isT_sh ha0) (fun h => by cases h) (Go.stt S7 eS7 ?_)
  refine Go.aload_n 0 11 rfl dX1_readFrom_10 rfl ?_
  obtain ⟨k11, qk11, hk11, hf⟩ := f_rfd hf
  refine Go.getR 14 rfl dX1_readFrom_11 fl_X1_33 rfl (isT_lt ha0) (isT_sh ha0) qk11 ?_
  obtain ⟨S14, eS14, hf⟩ := f_bnd hf
  refine Go.cVv 17 [] [] (C_X5_begin G l n S7 k11 S14 hk11 eS14) rfl dX1_readFrom_14 cv_X1_44 hk11 (by decide) (by decide) rfl (Nat.le_of_ble_eq_true rfl) ?_
  refine Go.iconst (0 : Int32) 18 rfl dX1_readFrom_17 ci_0 ?_
  refine Go.istore_n 19 [(2, .int (0 : Int32)), (0, .ref a0), (1, .ref a1)] rfl dX1_readFrom_18 (by decide) rfl ?_
  refine Go.iconst (0 : Int32) 20 rfl dX1_readFrom_19 ci_0 ?_
  refine Go.istore_n 21 [(3, .int (0 : Int32)), (2, .int (0 : Int32)), (0, .ref a0), (1, .ref a1)] rfl dX1_readFrom_20 (by decide) rfl ?_
  obtain ⟨K129, eK129, hf⟩ := f_jn hf
  have J129 : ∀ (x129S : aSt), K129 x129S = some (r, Sr) → GoM G l 4 (TmR G (some (.int r)) 97 Sr 0 0) mX1_readFrom 129 [(1, .ref a1)] [] x129S := by
    intro x129S hf
    rw [eK129] at hf
    refine Go.aload_n 0 130 rfl dX1_readFrom_129 rfl ?_
    refine Go.getI 133 rfl dX1_readFrom_130 fl_X1_47 rfl (isT_lt ha1) (isT_sh ha1) ?_
    exact Go.irS rfl dX1_readFrom_133 hf
  clear eK129
  have L21 : ∀ (fu : Nat) (l21_2 : Int32) (l21_3 : Int32) (l21S : aSt), F_X1_readFrom_L21 n a0 a1 K129 fu l21_2 l21_3 l21S = some (r, Sr) → GoM G l 4 (TmR G (some (.int r)) 97 Sr 0 0) mX1_readFrom 21 [(0, .ref a0), (1, .ref a1), (2, .int l21_2), (3, .int l21_3)] [] l21S := by
    intro fu
    induction fu with
    | zero => intro l21_2 l21_3 l21S hf; rw [F_X1_readFrom_L21] at hf; cases hf
    | succ fu ih =>
      intro l21_2 l21_3 l21S hf
      rw [F_X1_readFrom_L21] at hf
      refine Go.iload_n 3 22 rfl dX1_readFrom_21 rfl ?_
      refine Go.aload_n 1 23 rfl dX1_readFrom_22 rfl ?_
      refine Go.getI 26 rfl dX1_readFrom_23 fl_X1_47 rfl (isT_lt ha1) (isT_sh ha1) ?_
      refine Go.icmp_gt 129 29 rfl dX1_readFrom_26 rfl (fun hc => ?_) (fun hc => ?_)
      · replace hf := f_if hf hc
        exact Go.sub [1] [(1, .ref a1)] rfl (J129 l21S hf)
      · replace hf := f_el hf hc
        refine Go.aload_n 1 30 rfl dX1_readFrom_29 rfl ?_
        refine Go.iload_n 2 31 rfl dX1_readFrom_30 rfl ?_
        obtain ⟨r31, er31, hf⟩ := f_bnd hf
        refine Go.cS 34 [.ref a1, .int l21_2] [] (C_X1_pastBlanks G l n l21S a1 l21_2 r31 ha1 er31) rfl dX1_readFrom_31 cx_X1_52 (by decide) (by decide) rfl (Nat.le_of_ble_eq_true rfl) ?_
        refine Go.istore_n 35 [(2, .int r31), (0, .ref a0), (1, .ref a1), (3, .int l21_3)] rfl dX1_readFrom_34 (by decide) rfl ?_
        refine Go.aload_n 2 36 rfl dX1_readFrom_35 rfl ?_
        refine Go.iload_n 0 37 rfl dX1_readFrom_36 rfl ?_
        obtain ⟨r37, er37, hf⟩ := f_bnd hf
        refine Go.cV 40 [.int r31] [] (C_X4_reaches G l n l21S a1 r31 r37 ha1 er37) rfl dX1_readFrom_37 cv_X1_56 ha1 (by decide) (by decide) rfl (Nat.le_of_ble_eq_true rfl) ?_
        refine Go.if_ne 60 43 rfl dX1_readFrom_40 rfl (fun hc => ?_) (fun hc => ?_)
        · replace hf := f_el hf hc
          refine Go.aload_n 2 61 rfl dX1_readFrom_60 rfl ?_
          obtain ⟨k61, qk61, hk61, hf⟩ := f_rfd hf
          refine Go.getR 64 rfl dX1_readFrom_61 fl_X1_60 rfl (isT_lt ha1) (isT_sh ha1) qk61 ?_
          refine Go.iload_n 0 65 rfl dX1_readFrom_64 rfl ?_
          obtain ⟨g65, hf⟩ := f_grd hf
          refine Go.iald 66 rfl dX1_readFrom_65 (isT_lt hk61) (isT_sh hk61) g65 ?_
          refine Go.bipush (113 : Int32) 68 rfl dX1_readFrom_66 cb_113 ?_
          obtain ⟨K76, eK76, hf⟩ := f_jn hf
          have J76 : ∀ (j76s0 : Int32), K76 j76s0 = some (r, Sr) → GoM G l 4 (TmR G (some (.int r)) 97 Sr 0 0) mX1_readFrom 76 [(0, .ref a0), (1, .ref a1), (2, .int r31), (3, .int l21_3)] [.int j76s0] l21S := by
            intro j76s0 hf
            rw [eK76] at hf
            refine Go.istore 78 [(4, .int j76s0), (0, .ref a0), (1, .ref a1), (2, .int r31), (3, .int l21_3)] rfl dX1_readFrom_76 (by decide) rfl ?_
            refine Go.iload 0 80 rfl dX1_readFrom_78 rfl ?_
            obtain ⟨K98, eK98, hf⟩ := f_jn hf
            have J98 : ∀ (j98s0 : Int32) (j98S : aSt), K98 j98s0 j98S = some (r, Sr) → GoM G l 4 (TmR G (some (.int r)) 97 Sr 0 0) mX1_readFrom 98 [(0, .ref a0), (1, .ref a1), (2, .int r31), (3, .int l21_3), (4, .int j76s0)] [.int j98s0] j98S := by
              intro j98s0 j98S hf
              rw [eK98] at hf
              refine Go.istore 100 [(5, .int j98s0), (0, .ref a0), (1, .ref a1), (2, .int r31), (3, .int l21_3), (4, .int j76s0)] rfl dX1_readFrom_98 (by decide) rfl ?_
              refine Go.iload 0 102 rfl dX1_readFrom_100 rfl ?_
              refine Go.bipush (-9 : Int32) 104 rfl dX1_readFrom_102 cb_m9 ?_
              refine Go.icmp_eq 110 107 rfl dX1_readFrom_104 rfl (fun hc => ?_) (fun hc => ?_)
              · replace hf := f_if hf hc
                refine Go.iload_n 3 111 rfl dX1_readFrom_110 rfl ?_
                refine Go.iload 5 113 rfl dX1_readFrom_111 rfl ?_
                obtain ⟨K121, eK121, hf⟩ := f_jn hf
                have J121 : ∀ (j121s1 : Int32), K121 j121s1 = some (r, Sr) → GoM G l 4 (TmR G (some (.int r)) 97 Sr 0 0) mX1_readFrom 121 [(0, .ref a0), (1, .ref a1), (3, .int l21_3)] [.int j121s1, .int r31] j98S := by
                  intro j121s1 hf
                  rw [eK121] at hf
                  refine Go.iadd 122 rfl dX1_readFrom_121 ?_
                  obtain ⟨v122, ev122, hf⟩ := f_nm hf
                  refine Go.topi v122 ev122 ?_
                  refine Go.istore_n 123 [(2, .int v122), (0, .ref a0), (1, .ref a1), (3, .int l21_3)] rfl dX1_readFrom_122 (by decide) rfl ?_
                  refine Go.inc 3 126 (1 : Int32) [(3, .int (l21_3 + (1 : Int32))), (2, .int v122), (0, .ref a0), (1, .ref a1)] rfl dX1_readFrom_123 rfl ci_1 (by decide) rfl ?_
                  refine Go.goto 21 dX1_readFrom_126 rfl ?_
                  exact Go.sub [2, 3, 1, 0] [(0, .ref a0), (1, .ref a1), (2, .int v122), (3, .int (l21_3 + (1 : Int32)))] rfl (ih v122 (l21_3 + (1 : Int32)) j98S hf)
                clear eK121
                refine Go.if_eq 120 116 rfl dX1_readFrom_113 rfl (fun hc => ?_) (fun hc => ?_)
                · replace hf := f_if hf hc
                  refine Go.iconst (4 : Int32) 121 rfl dX1_readFrom_120 ci_4 ?_
                  exact Go.sub [1, 2, 4] [(0, .ref a0), (1, .ref a1), (3, .int l21_3)] rfl (J121 (4 : Int32) hf)
                · replace hf := f_el hf hc
                  refine Go.iconst (5 : Int32) 117 rfl dX1_readFrom_116 ci_5 ?_
                  refine Go.goto 121 dX1_readFrom_117 rfl ?_
                  exact Go.sub [1, 2, 4] [(0, .ref a0), (1, .ref a1), (3, .int l21_3)] rfl (J121 (5 : Int32) hf)
              · replace hf := f_el hf hc
                refine Go.iload 0 109 rfl dX1_readFrom_107 rfl ?_
                exact Go.irS rfl dX1_readFrom_109 hf
            clear eK98
            refine Go.if_eq 92 83 rfl dX1_readFrom_80 rfl (fun hc => ?_) (fun hc => ?_)
            · replace hf := f_if hf hc
              refine Go.aload_n 1 93 rfl dX1_readFrom_92 rfl ?_
              refine Go.aload_n 2 94 rfl dX1_readFrom_93 rfl ?_
              refine Go.iload_n 3 95 rfl dX1_readFrom_94 rfl ?_
              obtain ⟨r95, S95, er95, hf⟩ := f_bn2 hf
              refine Go.cV 98 [.ref a1, .int r31] [] (C_X1_readCard G l n l21S a0 a1 r31 r95 S95 ha0 ha1 er95) rfl dX1_readFrom_95 cv_X1_66 ha0 (by decide) (by decide) rfl (Nat.le_of_ble_eq_true rfl) ?_
              exact Go.sub [1, 2, 3, 4, 0] [(0, .ref a0), (1, .ref a1), (2, .int r31), (3, .int l21_3), (4, .int j76s0)] rfl (J98 r95 S95 hf)
            · replace hf := f_el hf hc
              refine Go.aload_n 1 84 rfl dX1_readFrom_83 rfl ?_
              refine Go.aload_n 2 85 rfl dX1_readFrom_84 rfl ?_
              refine Go.iload_n 3 86 rfl dX1_readFrom_85 rfl ?_
              obtain ⟨r86, S86, er86, hf⟩ := f_bn2 hf
              refine Go.cV 89 [.ref a1, .int r31] [] (C_X1_readQuestion G l n l21S a0 a1 r31 r86 S86 ha0 ha1 er86) rfl dX1_readFrom_86 cv_X1_63 ha0 (by decide) (by decide) rfl (Nat.le_of_ble_eq_true rfl) ?_
              refine Go.goto 98 dX1_readFrom_89 rfl ?_
              exact Go.sub [1, 2, 3, 4, 0] [(0, .ref a0), (1, .ref a1), (2, .int r31), (3, .int l21_3), (4, .int j76s0)] rfl (J98 r86 S86 hf)
          clear eK76
          refine Go.icmp_ne 75 71 rfl dX1_readFrom_68 rfl (fun hc => ?_) (fun hc => ?_)
          · replace hf := f_el hf hc
            refine Go.iconst (0 : Int32) 76 rfl dX1_readFrom_75 ci_0 ?_
            exact Go.sub [1, 2, 0, 3] [(0, .ref a0), (1, .ref a1), (2, .int r31), (3, .int l21_3)] rfl (J76 (0 : Int32) hf)
          · replace hf := f_if hf hc
            refine Go.iconst (1 : Int32) 72 rfl dX1_readFrom_71 ci_1 ?_
            refine Go.goto 76 dX1_readFrom_72 rfl ?_
            exact Go.sub [1, 2, 0, 3] [(0, .ref a0), (1, .ref a1), (2, .int r31), (3, .int l21_3)] rfl (J76 (1 : Int32) hf)
        · replace hf := f_if hf hc
          refine Go.aload_n 1 44 rfl dX1_readFrom_43 rfl ?_
          refine Go.getI 47 rfl dX1_readFrom_44 fl_X1_37 rfl (isT_lt ha0) (isT_sh ha0) ?_
          refine Go.if_ne 57 50 rfl dX1_readFrom_47 rfl (fun hc => ?_) (fun hc => ?_)
          · replace hf := f_el hf hc
            refine Go.bipush (-9 : Int32) 59 rfl dX1_readFrom_57 cb_m9 ?_
            exact Go.irS rfl dX1_readFrom_59 hf
          · replace hf := f_if hf hc
            refine Go.aload_n 2 51 rfl dX1_readFrom_50 rfl ?_
            refine Go.getI 54 rfl dX1_readFrom_51 fl_X1_47 rfl (isT_lt ha1) (isT_sh ha1) ?_
            refine Go.goto 59 dX1_readFrom_54 rfl ?_
            exact Go.irS rfl dX1_readFrom_59 hf
  exact Go.sub [2, 3, 1, 0] [(0, .ref a0), (1, .ref a1), (2, .int (0 : Int32)), (3, .int (0 : Int32))] rfl (L21 n (0 : Int32) (0 : Int32) S14 hf)
theorem dX1_isCard_0 : decode cX1_isCard 0 = .ok (.iload_n 1, 1) := by decide +kernel
theorem dX1_isCard_1 : decode cX1_isCard 1 = .ok (.ifCond .lt 15, 3) := by decide +kernel
theorem dX1_isCard_4 : decode cX1_isCard 4 = .ok (.iload_n 1, 1) := by decide +kernel
theorem dX1_isCard_5 : decode cX1_isCard 5 = .ok (.aload_n 0, 1) := by decide +kernel
theorem dX1_isCard_6 : decode cX1_isCard 6 = .ok (.getfield 37, 3) := by decide +kernel
theorem dX1_isCard_9 : decode cX1_isCard 9 = .ok (.if_icmp .ge 7, 3) := by decide +kernel
theorem dX1_isCard_12 : decode cX1_isCard 12 = .ok (.iconst 1, 1) := by decide +kernel
theorem dX1_isCard_13 : decode cX1_isCard 13 = .ok (.goto 4, 3) := by decide +kernel
theorem dX1_isCard_16 : decode cX1_isCard 16 = .ok (.iconst 0, 1) := by decide +kernel
theorem dX1_isCard_17 : decode cX1_isCard 17 = .ok (.ireturn, 1) := by decide +kernel
def F_X1_isCard (n : Nat) (S : aSt) (a0 : Nat) (a1 : Int32) : Option Int32 :=
if a1 < 0 then (some (0 : Int32)) else
if (S.1 a0 7) ≤ a1 then (some (0 : Int32)) else
some (1 : Int32)
set_option maxHeartbeats 4000000 in
set_option maxRecDepth 100000 in
theorem C_X1_isCard (G : aG) (l : Launch) (n : Nat) (S : aSt) (a0 : Nat) (a1 : Int32) (r : Int32) (ha0 : isT a0 0 = true) (hf : F_X1_isCard n S a0 a1 = some r) : Ctr G l yX1_isCard mX1_isCard (rmM 1) 97 97 S [.ref a0, .int a1] (some (.int r)) S := by
  refine Ctr.of (by decide) rfl rfl (Nat.le_of_ble_eq_true rfl) [(0, .ref a0), (1, .int a1)] rfl ?_
  unfold F_X1_isCard at hf
  refine Go.iload_n 1 1 rfl dX1_isCard_0 rfl ?_
  refine Go.if_lt 16 4 rfl dX1_isCard_1 rfl (fun hc => ?_) (fun hc => ?_)
  · replace hf := f_if hf hc
    refine Go.iconst (0 : Int32) 17 rfl dX1_isCard_16 ci_0 ?_
    exact Go.zr rfl (Or.inl rfl) dX1_isCard_17 hf
  · replace hf := f_el hf hc
    refine Go.iload_n 1 5 rfl dX1_isCard_4 rfl ?_
    refine Go.aload_n 0 6 rfl dX1_isCard_5 rfl ?_
    refine Go.getI 9 rfl dX1_isCard_6 fl_X1_37 rfl (isT_lt ha0) (isT_sh ha0) ?_
    refine Go.icmp_ge 16 12 rfl dX1_isCard_9 rfl (fun hc => ?_) (fun hc => ?_)
    · replace hf := f_if hf hc
      refine Go.iconst (0 : Int32) 17 rfl dX1_isCard_16 ci_0 ?_
      exact Go.zr rfl (Or.inl rfl) dX1_isCard_17 hf
    · replace hf := f_el hf hc
      refine Go.iconst (1 : Int32) 13 rfl dX1_isCard_12 ci_1 ?_
      refine Go.goto 17 dX1_isCard_13 rfl ?_
      exact Go.zr rfl (Or.inr rfl) dX1_isCard_17 hf
theorem dX1_isQuestion_0 : decode cX1_isQuestion 0 = .ok (.iload_n 1, 1) := by decide +kernel
theorem dX1_isQuestion_1 : decode cX1_isQuestion 1 = .ok (.ifCond .lt 15, 3) := by decide +kernel
theorem dX1_isQuestion_4 : decode cX1_isQuestion 4 = .ok (.iload_n 1, 1) := by decide +kernel
theorem dX1_isQuestion_5 : decode cX1_isQuestion 5 = .ok (.aload_n 0, 1) := by decide +kernel
theorem dX1_isQuestion_6 : decode cX1_isQuestion 6 = .ok (.getfield 41, 3) := by decide +kernel
theorem dX1_isQuestion_9 : decode cX1_isQuestion 9 = .ok (.if_icmp .ge 7, 3) := by decide +kernel
theorem dX1_isQuestion_12 : decode cX1_isQuestion 12 = .ok (.iconst 1, 1) := by decide +kernel
theorem dX1_isQuestion_13 : decode cX1_isQuestion 13 = .ok (.goto 4, 3) := by decide +kernel
theorem dX1_isQuestion_16 : decode cX1_isQuestion 16 = .ok (.iconst 0, 1) := by decide +kernel
theorem dX1_isQuestion_17 : decode cX1_isQuestion 17 = .ok (.ireturn, 1) := by decide +kernel
def F_X1_isQuestion (n : Nat) (S : aSt) (a0 : Nat) (a1 : Int32) : Option Int32 :=
if a1 < 0 then (some (0 : Int32)) else
if (S.1 a0 8) ≤ a1 then (some (0 : Int32)) else
some (1 : Int32)
set_option maxHeartbeats 4000000 in
set_option maxRecDepth 100000 in
theorem C_X1_isQuestion (G : aG) (l : Launch) (n : Nat) (S : aSt) (a0 : Nat) (a1 : Int32) (r : Int32) (ha0 : isT a0 0 = true) (hf : F_X1_isQuestion n S a0 a1 = some r) : Ctr G l yX1_isQuestion mX1_isQuestion (rmM 1) 97 97 S [.ref a0, .int a1] (some (.int r)) S := by
  refine Ctr.of (by decide) rfl rfl (Nat.le_of_ble_eq_true rfl) [(0, .ref a0), (1, .int a1)] rfl ?_
  unfold F_X1_isQuestion at hf
  refine Go.iload_n 1 1 rfl dX1_isQuestion_0 rfl ?_
  refine Go.if_lt 16 4 rfl dX1_isQuestion_1 rfl (fun hc => ?_) (fun hc => ?_)
  · replace hf := f_if hf hc
    refine Go.iconst (0 : Int32) 17 rfl dX1_isQuestion_16 ci_0 ?_
    exact Go.zr rfl (Or.inl rfl) dX1_isQuestion_17 hf
  · replace hf := f_el hf hc
    refine Go.iload_n 1 5 rfl dX1_isQuestion_4 rfl ?_
    refine Go.aload_n 0 6 rfl dX1_isQuestion_5 rfl ?_
    refine Go.getI 9 rfl dX1_isQuestion_6 fl_X1_41 rfl (isT_lt ha0) (isT_sh ha0) ?_
    refine Go.icmp_ge 16 12 rfl dX1_isQuestion_9 rfl (fun hc => ?_) (fun hc => ?_)
    · replace hf := f_if hf hc
      refine Go.iconst (0 : Int32) 17 rfl dX1_isQuestion_16 ci_0 ?_
      exact Go.zr rfl (Or.inl rfl) dX1_isQuestion_17 hf
    · replace hf := f_el hf hc
      refine Go.iconst (1 : Int32) 13 rfl dX1_isQuestion_12 ci_1 ?_
      refine Go.goto 17 dX1_isQuestion_13 rfl ?_
      exact Go.zr rfl (Or.inr rfl) dX1_isQuestion_17 hf
theorem dX1_allCards_0 : decode cX1_allCards 0 = .ok (.iconst 1, 1) := by decide +kernel
theorem dX1_allCards_1 : decode cX1_allCards 1 = .ok (.aload_n 0, 1) := by decide +kernel
theorem dX1_allCards_2 : decode cX1_allCards 2 = .ok (.getfield 37, 3) := by decide +kernel
theorem dX1_allCards_5 : decode cX1_allCards 5 = .ok (.ishl, 1) := by decide +kernel
theorem dX1_allCards_6 : decode cX1_allCards 6 = .ok (.iconst 1, 1) := by decide +kernel
theorem dX1_allCards_7 : decode cX1_allCards 7 = .ok (.isub, 1) := by decide +kernel
theorem dX1_allCards_8 : decode cX1_allCards 8 = .ok (.ireturn, 1) := by decide +kernel
def F_X1_allCards (n : Nat) (S : aSt) (a0 : Nat) : Option Int32 :=
some (((1 : Int32) <<< ((S.1 a0 7) &&& 31)) - (1 : Int32))
set_option maxHeartbeats 4000000 in
set_option maxRecDepth 100000 in
theorem C_X1_allCards (G : aG) (l : Launch) (n : Nat) (S : aSt) (a0 : Nat) (r : Int32) (ha0 : isT a0 0 = true) (hf : F_X1_allCards n S a0 = some r) : Ctr G l yX1_allCards mX1_allCards (rmM 1) 97 97 S [.ref a0] (some (.int r)) S := by
  refine Ctr.of (by decide) rfl rfl (Nat.le_of_ble_eq_true rfl) [(0, .ref a0)] rfl ?_
  unfold F_X1_allCards at hf
  refine Go.iconst (1 : Int32) 1 rfl dX1_allCards_0 ci_1 ?_
  refine Go.aload_n 0 2 rfl dX1_allCards_1 rfl ?_
  refine Go.getI 5 rfl dX1_allCards_2 fl_X1_37 rfl (isT_lt ha0) (isT_sh ha0) ?_
  refine Go.ishl 6 rfl dX1_allCards_5 ?_
  refine Go.iconst (1 : Int32) 7 rfl dX1_allCards_6 ci_1 ?_
  refine Go.isub 8 rfl dX1_allCards_7 ?_
  exact Go.ir rfl dX1_allCards_8 hf
theorem dX1_isFreeCard_0 : decode cX1_isFreeCard 0 = .ok (.aload_n 0, 1) := by decide +kernel
theorem dX1_isFreeCard_1 : decode cX1_isFreeCard 1 = .ok (.getfield 33, 3) := by decide +kernel
theorem dX1_isFreeCard_4 : decode cX1_isFreeCard 4 = .ok (.iload_n 1, 1) := by decide +kernel
theorem dX1_isFreeCard_5 : decode cX1_isFreeCard 5 = .ok (.invokevirtual 91, 3) := by decide +kernel
theorem dX1_isFreeCard_8 : decode cX1_isFreeCard 8 = .ok (.bipush (-9), 2) := by decide +kernel
theorem dX1_isFreeCard_10 : decode cX1_isFreeCard 10 = .ok (.if_icmp .ne 7, 3) := by decide +kernel
theorem dX1_isFreeCard_13 : decode cX1_isFreeCard 13 = .ok (.iconst 1, 1) := by decide +kernel
theorem dX1_isFreeCard_14 : decode cX1_isFreeCard 14 = .ok (.goto 4, 3) := by decide +kernel
theorem dX1_isFreeCard_17 : decode cX1_isFreeCard 17 = .ok (.iconst 0, 1) := by decide +kernel
theorem dX1_isFreeCard_18 : decode cX1_isFreeCard 18 = .ok (.ireturn, 1) := by decide +kernel
def F_X1_isFreeCard (n : Nat) (S : aSt) (a0 : Nat) (a1 : Int32) : Option Int32 :=
rfd (S.2.2 a0 6) 4 fun k1 =>
(F_X5_questionOf n S k1 a1).bind fun r5 =>
if r5 = (-9 : Int32) then (some (1 : Int32)) else
some (0 : Int32)
set_option maxHeartbeats 4000000 in
set_option maxRecDepth 100000 in
theorem C_X1_isFreeCard (G : aG) (l : Launch) (n : Nat) (S : aSt) (a0 : Nat) (a1 : Int32) (r : Int32) (ha0 : isT a0 0 = true) (hf : F_X1_isFreeCard n S a0 a1 = some r) : Ctr G l yX1_isFreeCard mX1_isFreeCard (rmM 2) 97 97 S [.ref a0, .int a1] (some (.int r)) S := by
  refine Ctr.of (by decide) rfl rfl (Nat.le_of_ble_eq_true rfl) [(0, .ref a0), (1, .int a1)] rfl ?_
  unfold F_X1_isFreeCard at hf
  refine Go.aload_n 0 1 rfl dX1_isFreeCard_0 rfl ?_
  obtain ⟨k1, qk1, hk1, hf⟩ := f_rfd hf
  refine Go.getR 4 rfl dX1_isFreeCard_1 fl_X1_33 rfl (isT_lt ha0) (isT_sh ha0) qk1 ?_
  refine Go.iload_n 1 5 rfl dX1_isFreeCard_4 rfl ?_
  obtain ⟨r5, er5, hf⟩ := f_bnd hf
  refine Go.cV 8 [.int a1] [] (C_X5_questionOf G l n S k1 a1 r5 hk1 er5) rfl dX1_isFreeCard_5 cv_X1_91 hk1 (by decide) (by decide) rfl (Nat.le_of_ble_eq_true rfl) ?_
  refine Go.bipush (-9 : Int32) 10 rfl dX1_isFreeCard_8 cb_m9 ?_
  refine Go.icmp_ne 17 13 rfl dX1_isFreeCard_10 rfl (fun hc => ?_) (fun hc => ?_)
  · replace hf := f_el hf hc
    refine Go.iconst (0 : Int32) 18 rfl dX1_isFreeCard_17 ci_0 ?_
    exact Go.zr rfl (Or.inl rfl) dX1_isFreeCard_18 hf
  · replace hf := f_if hf hc
    refine Go.iconst (1 : Int32) 14 rfl dX1_isFreeCard_13 ci_1 ?_
    refine Go.goto 18 dX1_isFreeCard_14 rfl ?_
    exact Go.zr rfl (Or.inr rfl) dX1_isFreeCard_18 hf
theorem dX1_isFreeQuestion_0 : decode cX1_isFreeQuestion 0 = .ok (.aload_n 0, 1) := by decide +kernel
theorem dX1_isFreeQuestion_1 : decode cX1_isFreeQuestion 1 = .ok (.getfield 33, 3) := by decide +kernel
theorem dX1_isFreeQuestion_4 : decode cX1_isFreeQuestion 4 = .ok (.getfield 94, 3) := by decide +kernel
theorem dX1_isFreeQuestion_7 : decode cX1_isFreeQuestion 7 = .ok (.iload_n 1, 1) := by decide +kernel
theorem dX1_isFreeQuestion_8 : decode cX1_isFreeQuestion 8 = .ok (.iaload, 1) := by decide +kernel
theorem dX1_isFreeQuestion_9 : decode cX1_isFreeQuestion 9 = .ok (.bipush (-9), 2) := by decide +kernel
theorem dX1_isFreeQuestion_11 : decode cX1_isFreeQuestion 11 = .ok (.if_icmp .ne 7, 3) := by decide +kernel
theorem dX1_isFreeQuestion_14 : decode cX1_isFreeQuestion 14 = .ok (.iconst 1, 1) := by decide +kernel
theorem dX1_isFreeQuestion_15 : decode cX1_isFreeQuestion 15 = .ok (.goto 4, 3) := by decide +kernel
theorem dX1_isFreeQuestion_18 : decode cX1_isFreeQuestion 18 = .ok (.iconst 0, 1) := by decide +kernel
theorem dX1_isFreeQuestion_19 : decode cX1_isFreeQuestion 19 = .ok (.ireturn, 1) := by decide +kernel
def F_X1_isFreeQuestion (n : Nat) (S : aSt) (a0 : Nat) (a1 : Int32) : Option Int32 :=
rfd (S.2.2 a0 6) 4 fun k1 =>
rfd (S.2.2 k1 3) 7 fun k4 =>
grd (inb a1 (SH k4).2) <|
if (S.1 k4 a1.toNatClampNeg) = (-9 : Int32) then (some (1 : Int32)) else
some (0 : Int32)
set_option maxHeartbeats 4000000 in
set_option maxRecDepth 100000 in
theorem C_X1_isFreeQuestion (G : aG) (l : Launch) (n : Nat) (S : aSt) (a0 : Nat) (a1 : Int32) (r : Int32) (ha0 : isT a0 0 = true) (hf : F_X1_isFreeQuestion n S a0 a1 = some r) : Ctr G l yX1_isFreeQuestion mX1_isFreeQuestion (rmM 1) 97 97 S [.ref a0, .int a1] (some (.int r)) S := by
  refine Ctr.of (by decide) rfl rfl (Nat.le_of_ble_eq_true rfl) [(0, .ref a0), (1, .int a1)] rfl ?_
  unfold F_X1_isFreeQuestion at hf
  refine Go.aload_n 0 1 rfl dX1_isFreeQuestion_0 rfl ?_
  obtain ⟨k1, qk1, hk1, hf⟩ := f_rfd hf
  refine Go.getR 4 rfl dX1_isFreeQuestion_1 fl_X1_33 rfl (isT_lt ha0) (isT_sh ha0) qk1 ?_
  obtain ⟨k4, qk4, hk4, hf⟩ := f_rfd hf
  refine Go.getR 7 rfl dX1_isFreeQuestion_4 fl_X1_94 rfl (isT_lt hk1) (isT_sh hk1) qk4 ?_
  refine Go.iload_n 1 8 rfl dX1_isFreeQuestion_7 rfl ?_
  obtain ⟨g8, hf⟩ := f_grd hf
  refine Go.iald 9 rfl dX1_isFreeQuestion_8 (isT_lt hk4) (isT_sh hk4) g8 ?_
  refine Go.bipush (-9 : Int32) 11 rfl dX1_isFreeQuestion_9 cb_m9 ?_
  refine Go.icmp_ne 18 14 rfl dX1_isFreeQuestion_11 rfl (fun hc => ?_) (fun hc => ?_)
  · replace hf := f_el hf hc
    refine Go.iconst (0 : Int32) 19 rfl dX1_isFreeQuestion_18 ci_0 ?_
    exact Go.zr rfl (Or.inl rfl) dX1_isFreeQuestion_19 hf
  · replace hf := f_if hf hc
    refine Go.iconst (1 : Int32) 15 rfl dX1_isFreeQuestion_14 ci_1 ?_
    refine Go.goto 19 dX1_isFreeQuestion_15 rfl ?_
    exact Go.zr rfl (Or.inr rfl) dX1_isFreeQuestion_19 hf
theorem dX1_freeCards_0 : decode cX1_freeCards 0 = .ok (.aload_n 0, 1) := by decide +kernel
theorem dX1_freeCards_1 : decode cX1_freeCards 1 = .ok (.invokevirtual 97, 3) := by decide +kernel
theorem dX1_freeCards_4 : decode cX1_freeCards 4 = .ok (.istore_n 1, 1) := by decide +kernel
theorem dX1_freeCards_5 : decode cX1_freeCards 5 = .ok (.iconst 0, 1) := by decide +kernel
theorem dX1_freeCards_6 : decode cX1_freeCards 6 = .ok (.istore_n 2, 1) := by decide +kernel
theorem dX1_freeCards_7 : decode cX1_freeCards 7 = .ok (.iload_n 2, 1) := by decide +kernel
theorem dX1_freeCards_8 : decode cX1_freeCards 8 = .ok (.aload_n 0, 1) := by decide +kernel
theorem dX1_freeCards_9 : decode cX1_freeCards 9 = .ok (.getfield 41, 3) := by decide +kernel
theorem dX1_freeCards_12 : decode cX1_freeCards 12 = .ok (.if_icmp .ge 33, 3) := by decide +kernel
theorem dX1_freeCards_15 : decode cX1_freeCards 15 = .ok (.aload_n 0, 1) := by decide +kernel
theorem dX1_freeCards_16 : decode cX1_freeCards 16 = .ok (.iload_n 2, 1) := by decide +kernel
theorem dX1_freeCards_17 : decode cX1_freeCards 17 = .ok (.invokevirtual 101, 3) := by decide +kernel
theorem dX1_freeCards_20 : decode cX1_freeCards 20 = .ok (.ifCond .ne 19, 3) := by decide +kernel
theorem dX1_freeCards_23 : decode cX1_freeCards 23 = .ok (.iload_n 1, 1) := by decide +kernel
theorem dX1_freeCards_24 : decode cX1_freeCards 24 = .ok (.iconst 1, 1) := by decide +kernel
theorem dX1_freeCards_25 : decode cX1_freeCards 25 = .ok (.aload_n 0, 1) := by decide +kernel
theorem dX1_freeCards_26 : decode cX1_freeCards 26 = .ok (.getfield 33, 3) := by decide +kernel
theorem dX1_freeCards_29 : decode cX1_freeCards 29 = .ok (.getfield 94, 3) := by decide +kernel
theorem dX1_freeCards_32 : decode cX1_freeCards 32 = .ok (.iload_n 2, 1) := by decide +kernel
theorem dX1_freeCards_33 : decode cX1_freeCards 33 = .ok (.iaload, 1) := by decide +kernel
theorem dX1_freeCards_34 : decode cX1_freeCards 34 = .ok (.ishl, 1) := by decide +kernel
theorem dX1_freeCards_35 : decode cX1_freeCards 35 = .ok (.iconst (-1), 1) := by decide +kernel
theorem dX1_freeCards_36 : decode cX1_freeCards 36 = .ok (.ixor, 1) := by decide +kernel
theorem dX1_freeCards_37 : decode cX1_freeCards 37 = .ok (.iand, 1) := by decide +kernel
theorem dX1_freeCards_38 : decode cX1_freeCards 38 = .ok (.istore_n 1, 1) := by decide +kernel
theorem dX1_freeCards_39 : decode cX1_freeCards 39 = .ok (.iinc 2 1, 3) := by decide +kernel
theorem dX1_freeCards_42 : decode cX1_freeCards 42 = .ok (.goto (-35), 3) := by decide +kernel
theorem dX1_freeCards_45 : decode cX1_freeCards 45 = .ok (.iload_n 1, 1) := by decide +kernel
theorem dX1_freeCards_46 : decode cX1_freeCards 46 = .ok (.ireturn, 1) := by decide +kernel
def F_X1_freeCards_L7 (n : Nat) (S : aSt) (a0 : Nat) (K45 : Int32 → Option Int32) : Nat → Int32 → Int32 → Option Int32
  | 0, _, _ => none
  | fu + 1, l7_1, l7_2 =>
    if (S.1 a0 8) ≤ l7_2 then (K45 l7_1) else
    (F_X1_isFreeQuestion n S a0 l7_2).bind fun r17 =>
    jn (fun (j39_1 : Int32) => (F_X1_freeCards_L7 n S a0 K45 fu j39_1 (l7_2 + (1 : Int32)) : Option Int32)) fun K39 =>
    if r17 = 0 then (rfd (S.2.2 a0 6) 4 fun k26 =>
    rfd (S.2.2 k26 3) 7 fun k29 =>
    grd (inb l7_2 (SH k29).2) <|
    nm (l7_1 &&& (((1 : Int32) <<< ((S.1 k29 l7_2.toNatClampNeg) &&& 31)) ^^^ (-1 : Int32))) fun v38 =>
    K39 v38) else
    K39 l7_1
def F_X1_freeCards (n : Nat) (S : aSt) (a0 : Nat) : Option Int32 :=
(F_X1_allCards n S a0).bind fun r1 =>
jn (fun (x45_1 : Int32) => (some x45_1 : Option Int32)) fun K45 =>
F_X1_freeCards_L7 n S a0 K45 n r1 (0 : Int32)
set_option maxHeartbeats 4000000 in
set_option maxRecDepth 100000 in
theorem C_X1_freeCards (G : aG) (l : Launch) (n : Nat) (S : aSt) (a0 : Nat) (r : Int32) (ha0 : isT a0 0 = true) (hf : F_X1_freeCards n S a0 = some r) : Ctr G l yX1_freeCards mX1_freeCards (rmM 2) 97 97 S [.ref a0] (some (.int r)) S := by
  refine Ctr.of (by decide) rfl rfl (Nat.le_of_ble_eq_true rfl) [(0, .ref a0)] rfl ?_
  unfold F_X1_freeCards at hf
  refine Go.aload_n 0 1 rfl dX1_freeCards_0 rfl ?_
  obtain ⟨r1, er1, hf⟩ := f_bnd hf
  refine Go.cV 4 [] [] (C_X1_allCards G l n S a0 r1 ha0 er1) rfl dX1_freeCards_1 cv_X1_97 ha0 (by decide) (by decide) rfl (Nat.le_of_ble_eq_true rfl) ?_
  refine Go.istore_n 5 [(1, .int r1), (0, .ref a0)] rfl dX1_freeCards_4 (by decide) rfl ?_
  refine Go.iconst (0 : Int32) 6 rfl dX1_freeCards_5 ci_0 ?_
  refine Go.istore_n 7 [(2, .int (0 : Int32)), (1, .int r1), (0, .ref a0)] rfl dX1_freeCards_6 (by decide) rfl ?_
  obtain ⟨K45, eK45, hf⟩ := f_jn hf
  have J45 : ∀ (x45_1 : Int32), K45 x45_1 = some r → GoM G l 2 (TmR G (some (.int r)) 97 S 0 0) mX1_freeCards 45 [(1, .int x45_1)] [] S := by
    intro x45_1 hf
    rw [eK45] at hf
    refine Go.iload_n 0 46 rfl dX1_freeCards_45 rfl ?_
    exact Go.ir rfl dX1_freeCards_46 hf
  clear eK45
  have L7 : ∀ (fu : Nat) (l7_1 : Int32) (l7_2 : Int32), F_X1_freeCards_L7 n S a0 K45 fu l7_1 l7_2 = some r → GoM G l 2 (TmR G (some (.int r)) 97 S 0 0) mX1_freeCards 7 [(0, .ref a0), (1, .int l7_1), (2, .int l7_2)] [] S := by
    intro fu
    induction fu with
    | zero => intro l7_1 l7_2 hf; rw [F_X1_freeCards_L7] at hf; cases hf
    | succ fu ih =>
      intro l7_1 l7_2 hf
      rw [F_X1_freeCards_L7] at hf
      refine Go.iload_n 2 8 rfl dX1_freeCards_7 rfl ?_
      refine Go.aload_n 0 9 rfl dX1_freeCards_8 rfl ?_
      refine Go.getI 12 rfl dX1_freeCards_9 fl_X1_41 rfl (isT_lt ha0) (isT_sh ha0) ?_
      refine Go.icmp_ge 45 15 rfl dX1_freeCards_12 rfl (fun hc => ?_) (fun hc => ?_)
      · replace hf := f_if hf hc
        exact Go.sub [1] [(1, .int l7_1)] rfl (J45 l7_1 hf)
      · replace hf := f_el hf hc
        refine Go.aload_n 0 16 rfl dX1_freeCards_15 rfl ?_
        refine Go.iload_n 2 17 rfl dX1_freeCards_16 rfl ?_
        obtain ⟨r17, er17, hf⟩ := f_bnd hf
        refine Go.cV 20 [.int l7_2] [] (C_X1_isFreeQuestion G l n S a0 l7_2 r17 ha0 er17) rfl dX1_freeCards_17 cv_X1_101 ha0 (by decide) (by decide) rfl (Nat.le_of_ble_eq_true rfl) ?_
        obtain ⟨K39, eK39, hf⟩ := f_jn hf
        have J39 : ∀ (j39_1 : Int32), K39 j39_1 = some r → GoM G l 2 (TmR G (some (.int r)) 97 S 0 0) mX1_freeCards 39 [(0, .ref a0), (1, .int j39_1), (2, .int l7_2)] [] S := by
          intro j39_1 hf
          rw [eK39] at hf
          refine Go.inc 2 42 (1 : Int32) [(2, .int (l7_2 + (1 : Int32))), (0, .ref a0), (1, .int j39_1)] rfl dX1_freeCards_39 rfl ci_1 (by decide) rfl ?_
          refine Go.goto 7 dX1_freeCards_42 rfl ?_
          exact Go.sub [1, 2, 0] [(0, .ref a0), (1, .int j39_1), (2, .int (l7_2 + (1 : Int32)))] rfl (ih j39_1 (l7_2 + (1 : Int32)) hf)
        clear eK39
        refine Go.if_ne 39 23 rfl dX1_freeCards_20 rfl (fun hc => ?_) (fun hc => ?_)
        · replace hf := f_el hf hc
          exact J39 l7_1 hf
        · replace hf := f_if hf hc
          refine Go.iload_n 1 24 rfl dX1_freeCards_23 rfl ?_
          refine Go.iconst (1 : Int32) 25 rfl dX1_freeCards_24 ci_1 ?_
          refine Go.aload_n 0 26 rfl dX1_freeCards_25 rfl ?_
          obtain ⟨k26, qk26, hk26, hf⟩ := f_rfd hf
          refine Go.getR 29 rfl dX1_freeCards_26 fl_X1_33 rfl (isT_lt ha0) (isT_sh ha0) qk26 ?_
          obtain ⟨k29, qk29, hk29, hf⟩ := f_rfd hf
          refine Go.getR 32 rfl dX1_freeCards_29 fl_X1_94 rfl (isT_lt hk26) (isT_sh hk26) qk29 ?_
          refine Go.iload_n 2 33 rfl dX1_freeCards_32 rfl ?_
          obtain ⟨g33, hf⟩ := f_grd hf
          refine Go.iald 34 rfl dX1_freeCards_33 (isT_lt hk29) (isT_sh hk29) g33 ?_
          refine Go.ishl 35 rfl dX1_freeCards_34 ?_
          refine Go.iconst (-1 : Int32) 36 rfl dX1_freeCards_35 ci_m1 ?_
          refine Go.ixor 37 rfl dX1_freeCards_36 ?_
          refine Go.iand 38 rfl dX1_freeCards_37 ?_
          obtain ⟨v38, ev38, hf⟩ := f_nm hf
          refine Go.topi v38 ev38 ?_
          refine Go.istore_n 39 [(1, .int v38), (0, .ref a0), (2, .int l7_2)] rfl dX1_freeCards_38 (by decide) rfl ?_
          exact Go.sub [1, 0, 2] [(0, .ref a0), (1, .int v38), (2, .int l7_2)] rfl (J39 v38 hf)
  exact Go.sub [2, 1, 0] [(0, .ref a0), (1, .int r1), (2, .int (0 : Int32))] rfl (L7 n r1 (0 : Int32) hf)
theorem dX1_answered_0 : decode cX1_answered 0 = .ok (.iconst 0, 1) := by decide +kernel
theorem dX1_answered_1 : decode cX1_answered 1 = .ok (.istore_n 1, 1) := by decide +kernel
theorem dX1_answered_2 : decode cX1_answered 2 = .ok (.iconst 0, 1) := by decide +kernel
theorem dX1_answered_3 : decode cX1_answered 3 = .ok (.istore_n 2, 1) := by decide +kernel
theorem dX1_answered_4 : decode cX1_answered 4 = .ok (.iload_n 2, 1) := by decide +kernel
theorem dX1_answered_5 : decode cX1_answered 5 = .ok (.aload_n 0, 1) := by decide +kernel
theorem dX1_answered_6 : decode cX1_answered 6 = .ok (.getfield 41, 3) := by decide +kernel
theorem dX1_answered_9 : decode cX1_answered 9 = .ok (.if_icmp .ge 20, 3) := by decide +kernel
theorem dX1_answered_12 : decode cX1_answered 12 = .ok (.aload_n 0, 1) := by decide +kernel
theorem dX1_answered_13 : decode cX1_answered 13 = .ok (.iload_n 2, 1) := by decide +kernel
theorem dX1_answered_14 : decode cX1_answered 14 = .ok (.invokevirtual 101, 3) := by decide +kernel
theorem dX1_answered_17 : decode cX1_answered 17 = .ok (.ifCond .ne 6, 3) := by decide +kernel
theorem dX1_answered_20 : decode cX1_answered 20 = .ok (.iinc 1 1, 3) := by decide +kernel
theorem dX1_answered_23 : decode cX1_answered 23 = .ok (.iinc 2 1, 3) := by decide +kernel
theorem dX1_answered_26 : decode cX1_answered 26 = .ok (.goto (-22), 3) := by decide +kernel
theorem dX1_answered_29 : decode cX1_answered 29 = .ok (.iload_n 1, 1) := by decide +kernel
theorem dX1_answered_30 : decode cX1_answered 30 = .ok (.ireturn, 1) := by decide +kernel
def F_X1_answered_L4 (n : Nat) (S : aSt) (a0 : Nat) (K29 : Int32 → Option Int32) : Nat → Int32 → Int32 → Option Int32
  | 0, _, _ => none
  | fu + 1, l4_1, l4_2 =>
    if (S.1 a0 8) ≤ l4_2 then (K29 l4_1) else
    (F_X1_isFreeQuestion n S a0 l4_2).bind fun r14 =>
    jn (fun (j23_1 : Int32) => (F_X1_answered_L4 n S a0 K29 fu j23_1 (l4_2 + (1 : Int32)) : Option Int32)) fun K23 =>
    if r14 = 0 then (K23 (l4_1 + (1 : Int32))) else
    K23 l4_1
def F_X1_answered (n : Nat) (S : aSt) (a0 : Nat) : Option Int32 :=
jn (fun (x29_1 : Int32) => (some x29_1 : Option Int32)) fun K29 =>
F_X1_answered_L4 n S a0 K29 n (0 : Int32) (0 : Int32)
set_option maxHeartbeats 4000000 in
set_option maxRecDepth 100000 in
theorem C_X1_answered (G : aG) (l : Launch) (n : Nat) (S : aSt) (a0 : Nat) (r : Int32) (ha0 : isT a0 0 = true) (hf : F_X1_answered n S a0 = some r) : Ctr G l yX1_answered mX1_answered (rmM 2) 97 97 S [.ref a0] (some (.int r)) S := by
  refine Ctr.of (by decide) rfl rfl (Nat.le_of_ble_eq_true rfl) [(0, .ref a0)] rfl ?_
  unfold F_X1_answered at hf
  refine Go.iconst (0 : Int32) 1 rfl dX1_answered_0 ci_0 ?_
  refine Go.istore_n 2 [(1, .int (0 : Int32)), (0, .ref a0)] rfl dX1_answered_1 (by decide) rfl ?_
  refine Go.iconst (0 : Int32) 3 rfl dX1_answered_2 ci_0 ?_
  refine Go.istore_n 4 [(2, .int (0 : Int32)), (1, .int (0 : Int32)), (0, .ref a0)] rfl dX1_answered_3 (by decide) rfl ?_
  obtain ⟨K29, eK29, hf⟩ := f_jn hf
  have J29 : ∀ (x29_1 : Int32), K29 x29_1 = some r → GoM G l 2 (TmR G (some (.int r)) 97 S 0 0) mX1_answered 29 [(1, .int x29_1)] [] S := by
    intro x29_1 hf
    rw [eK29] at hf
    refine Go.iload_n 0 30 rfl dX1_answered_29 rfl ?_
    exact Go.ir rfl dX1_answered_30 hf
  clear eK29
  have L4 : ∀ (fu : Nat) (l4_1 : Int32) (l4_2 : Int32), F_X1_answered_L4 n S a0 K29 fu l4_1 l4_2 = some r → GoM G l 2 (TmR G (some (.int r)) 97 S 0 0) mX1_answered 4 [(0, .ref a0), (1, .int l4_1), (2, .int l4_2)] [] S := by
    intro fu
    induction fu with
    | zero => intro l4_1 l4_2 hf; rw [F_X1_answered_L4] at hf; cases hf
    | succ fu ih =>
      intro l4_1 l4_2 hf
      rw [F_X1_answered_L4] at hf
      refine Go.iload_n 2 5 rfl dX1_answered_4 rfl ?_
      refine Go.aload_n 0 6 rfl dX1_answered_5 rfl ?_
      refine Go.getI 9 rfl dX1_answered_6 fl_X1_41 rfl (isT_lt ha0) (isT_sh ha0) ?_
      refine Go.icmp_ge 29 12 rfl dX1_answered_9 rfl (fun hc => ?_) (fun hc => ?_)
      · replace hf := f_if hf hc
        exact Go.sub [1] [(1, .int l4_1)] rfl (J29 l4_1 hf)
      · replace hf := f_el hf hc
        refine Go.aload_n 0 13 rfl dX1_answered_12 rfl ?_
        refine Go.iload_n 2 14 rfl dX1_answered_13 rfl ?_
        obtain ⟨r14, er14, hf⟩ := f_bnd hf
        refine Go.cV 17 [.int l4_2] [] (C_X1_isFreeQuestion G l n S a0 l4_2 r14 ha0 er14) rfl dX1_answered_14 cv_X1_101 ha0 (by decide) (by decide) rfl (Nat.le_of_ble_eq_true rfl) ?_
        obtain ⟨K23, eK23, hf⟩ := f_jn hf
        have J23 : ∀ (j23_1 : Int32), K23 j23_1 = some r → GoM G l 2 (TmR G (some (.int r)) 97 S 0 0) mX1_answered 23 [(0, .ref a0), (1, .int j23_1), (2, .int l4_2)] [] S := by
          intro j23_1 hf
          rw [eK23] at hf
          refine Go.inc 2 26 (1 : Int32) [(2, .int (l4_2 + (1 : Int32))), (0, .ref a0), (1, .int j23_1)] rfl dX1_answered_23 rfl ci_1 (by decide) rfl ?_
          refine Go.goto 4 dX1_answered_26 rfl ?_
          exact Go.sub [1, 2, 0] [(0, .ref a0), (1, .int j23_1), (2, .int (l4_2 + (1 : Int32)))] rfl (ih j23_1 (l4_2 + (1 : Int32)) hf)
        clear eK23
        refine Go.if_ne 23 20 rfl dX1_answered_17 rfl (fun hc => ?_) (fun hc => ?_)
        · replace hf := f_el hf hc
          exact J23 l4_1 hf
        · replace hf := f_if hf hc
          refine Go.inc 1 23 (1 : Int32) [(1, .int (l4_1 + (1 : Int32))), (0, .ref a0), (2, .int l4_2)] rfl dX1_answered_20 rfl ci_1 (by decide) rfl ?_
          exact Go.sub [1, 0, 2] [(0, .ref a0), (1, .int (l4_1 + (1 : Int32))), (2, .int l4_2)] rfl (J23 (l4_1 + (1 : Int32)) hf)
  exact Go.sub [2, 1, 0] [(0, .ref a0), (1, .int (0 : Int32)), (2, .int (0 : Int32))] rfl (L4 n (0 : Int32) (0 : Int32) hf)
theorem dX1_meaningOf_0 : decode cX1_meaningOf 0 = .ok (.aload_n 0, 1) := by decide +kernel
theorem dX1_meaningOf_1 : decode cX1_meaningOf 1 = .ok (.getfield 9, 3) := by decide +kernel
theorem dX1_meaningOf_4 : decode cX1_meaningOf 4 = .ok (.iload_n 1, 1) := by decide +kernel
theorem dX1_meaningOf_5 : decode cX1_meaningOf 5 = .ok (.iaload, 1) := by decide +kernel
theorem dX1_meaningOf_6 : decode cX1_meaningOf 6 = .ok (.aload_n 0, 1) := by decide +kernel
theorem dX1_meaningOf_7 : decode cX1_meaningOf 7 = .ok (.getfield 15, 3) := by decide +kernel
theorem dX1_meaningOf_10 : decode cX1_meaningOf 10 = .ok (.iload_n 1, 1) := by decide +kernel
theorem dX1_meaningOf_11 : decode cX1_meaningOf 11 = .ok (.iaload, 1) := by decide +kernel
theorem dX1_meaningOf_12 : decode cX1_meaningOf 12 = .ok (.aload_n 0, 1) := by decide +kernel
theorem dX1_meaningOf_13 : decode cX1_meaningOf 13 = .ok (.getfield 33, 3) := by decide +kernel
theorem dX1_meaningOf_16 : decode cX1_meaningOf 16 = .ok (.getfield 82, 3) := by decide +kernel
theorem dX1_meaningOf_19 : decode cX1_meaningOf 19 = .ok (.iload_n 1, 1) := by decide +kernel
theorem dX1_meaningOf_20 : decode cX1_meaningOf 20 = .ok (.iaload, 1) := by decide +kernel
theorem dX1_meaningOf_21 : decode cX1_meaningOf 21 = .ok (.invokestatic 104, 3) := by decide +kernel
theorem dX1_meaningOf_24 : decode cX1_meaningOf 24 = .ok (.ireturn, 1) := by decide +kernel
def F_X1_meaningOf (n : Nat) (S : aSt) (a0 : Nat) (a1 : Int32) : Option Int32 :=
rfd (S.2.2 a0 0) 7 fun k1 =>
grd (inb a1 (SH k1).2) <|
rfd (S.2.2 a0 1) 7 fun k7 =>
grd (inb a1 (SH k7).2) <|
rfd (S.2.2 a0 6) 4 fun k13 =>
rfd (S.2.2 k13 1) 7 fun k16 =>
grd (inb a1 (SH k16).2) <|
(F_X0_meaning n S (S.1 k1 a1.toNatClampNeg) (S.1 k7 a1.toNatClampNeg) (S.1 k16 a1.toNatClampNeg)).bind fun r21 =>
some r21
set_option maxHeartbeats 4000000 in
set_option maxRecDepth 100000 in
theorem C_X1_meaningOf (G : aG) (l : Launch) (n : Nat) (S : aSt) (a0 : Nat) (a1 : Int32) (r : Int32) (ha0 : isT a0 0 = true) (hf : F_X1_meaningOf n S a0 a1 = some r) : Ctr G l yX1_meaningOf mX1_meaningOf (rmM 2) 97 97 S [.ref a0, .int a1] (some (.int r)) S := by
  refine Ctr.of (by decide) rfl rfl (Nat.le_of_ble_eq_true rfl) [(0, .ref a0), (1, .int a1)] rfl ?_
  unfold F_X1_meaningOf at hf
  refine Go.aload_n 0 1 rfl dX1_meaningOf_0 rfl ?_
  obtain ⟨k1, qk1, hk1, hf⟩ := f_rfd hf
  refine Go.getR 4 rfl dX1_meaningOf_1 fl_X1_9 rfl (isT_lt ha0) (isT_sh ha0) qk1 ?_
  refine Go.iload_n 1 5 rfl dX1_meaningOf_4 rfl ?_
  obtain ⟨g5, hf⟩ := f_grd hf
  refine Go.iald 6 rfl dX1_meaningOf_5 (isT_lt hk1) (isT_sh hk1) g5 ?_
  refine Go.aload_n 0 7 rfl dX1_meaningOf_6 rfl ?_
  obtain ⟨k7, qk7, hk7, hf⟩ := f_rfd hf
  refine Go.getR 10 rfl dX1_meaningOf_7 fl_X1_15 rfl (isT_lt ha0) (isT_sh ha0) qk7 ?_
  refine Go.iload_n 1 11 rfl dX1_meaningOf_10 rfl ?_
  obtain ⟨g11, hf⟩ := f_grd hf
  refine Go.iald 12 rfl dX1_meaningOf_11 (isT_lt hk7) (isT_sh hk7) g11 ?_
  refine Go.aload_n 0 13 rfl dX1_meaningOf_12 rfl ?_
  obtain ⟨k13, qk13, hk13, hf⟩ := f_rfd hf
  refine Go.getR 16 rfl dX1_meaningOf_13 fl_X1_33 rfl (isT_lt ha0) (isT_sh ha0) qk13 ?_
  obtain ⟨k16, qk16, hk16, hf⟩ := f_rfd hf
  refine Go.getR 19 rfl dX1_meaningOf_16 fl_X1_82 rfl (isT_lt hk13) (isT_sh hk13) qk16 ?_
  refine Go.iload_n 1 20 rfl dX1_meaningOf_19 rfl ?_
  obtain ⟨g20, hf⟩ := f_grd hf
  refine Go.iald 21 rfl dX1_meaningOf_20 (isT_lt hk16) (isT_sh hk16) g20 ?_
  obtain ⟨r21, er21, hf⟩ := f_bnd hf
  refine Go.cS 24 [.int (S.1 k1 a1.toNatClampNeg), .int (S.1 k7 a1.toNatClampNeg), .int (S.1 k16 a1.toNatClampNeg)] [] (C_X0_meaning G l n S (S.1 k1 a1.toNatClampNeg) (S.1 k7 a1.toNatClampNeg) (S.1 k16 a1.toNatClampNeg) r21  er21) rfl dX1_meaningOf_21 cx_X1_104 (by decide) (by decide) rfl (Nat.le_of_ble_eq_true rfl) ?_
  exact Go.ir rfl dX1_meaningOf_24 hf
theorem dX1_isFitting_0 : decode cX1_isFitting 0 = .ok (.aload_n 0, 1) := by decide +kernel
theorem dX1_isFitting_1 : decode cX1_isFitting 1 = .ok (.iload_n 1, 1) := by decide +kernel
theorem dX1_isFitting_2 : decode cX1_isFitting 2 = .ok (.invokevirtual 108, 3) := by decide +kernel
theorem dX1_isFitting_5 : decode cX1_isFitting 5 = .ok (.istore_n 3, 1) := by decide +kernel
theorem dX1_isFitting_6 : decode cX1_isFitting 6 = .ok (.aload_n 0, 1) := by decide +kernel
theorem dX1_isFitting_7 : decode cX1_isFitting 7 = .ok (.getfield 9, 3) := by decide +kernel
theorem dX1_isFitting_10 : decode cX1_isFitting 10 = .ok (.iload_n 1, 1) := by decide +kernel
theorem dX1_isFitting_11 : decode cX1_isFitting 11 = .ok (.iaload, 1) := by decide +kernel
theorem dX1_isFitting_12 : decode cX1_isFitting 12 = .ok (.aload_n 0, 1) := by decide +kernel
theorem dX1_isFitting_13 : decode cX1_isFitting 13 = .ok (.getfield 18, 3) := by decide +kernel
theorem dX1_isFitting_16 : decode cX1_isFitting 16 = .ok (.iload_n 2, 1) := by decide +kernel
theorem dX1_isFitting_17 : decode cX1_isFitting 17 = .ok (.iaload, 1) := by decide +kernel
theorem dX1_isFitting_18 : decode cX1_isFitting 18 = .ok (.invokestatic 111, 3) := by decide +kernel
theorem dX1_isFitting_21 : decode cX1_isFitting 21 = .ok (.ifCond .eq 27, 3) := by decide +kernel
theorem dX1_isFitting_24 : decode cX1_isFitting 24 = .ok (.iload_n 3, 1) := by decide +kernel
theorem dX1_isFitting_25 : decode cX1_isFitting 25 = .ok (.aload_n 0, 1) := by decide +kernel
theorem dX1_isFitting_26 : decode cX1_isFitting 26 = .ok (.getfield 21, 3) := by decide +kernel
theorem dX1_isFitting_29 : decode cX1_isFitting 29 = .ok (.iload_n 2, 1) := by decide +kernel
theorem dX1_isFitting_30 : decode cX1_isFitting 30 = .ok (.iaload, 1) := by decide +kernel
theorem dX1_isFitting_31 : decode cX1_isFitting 31 = .ok (.if_icmp .lt 17, 3) := by decide +kernel
theorem dX1_isFitting_34 : decode cX1_isFitting 34 = .ok (.iload_n 3, 1) := by decide +kernel
theorem dX1_isFitting_35 : decode cX1_isFitting 35 = .ok (.aload_n 0, 1) := by decide +kernel
theorem dX1_isFitting_36 : decode cX1_isFitting 36 = .ok (.getfield 24, 3) := by decide +kernel
theorem dX1_isFitting_39 : decode cX1_isFitting 39 = .ok (.iload_n 2, 1) := by decide +kernel
theorem dX1_isFitting_40 : decode cX1_isFitting 40 = .ok (.iaload, 1) := by decide +kernel
theorem dX1_isFitting_41 : decode cX1_isFitting 41 = .ok (.if_icmp .gt 7, 3) := by decide +kernel
theorem dX1_isFitting_44 : decode cX1_isFitting 44 = .ok (.iconst 1, 1) := by decide +kernel
theorem dX1_isFitting_45 : decode cX1_isFitting 45 = .ok (.goto 4, 3) := by decide +kernel
theorem dX1_isFitting_48 : decode cX1_isFitting 48 = .ok (.iconst 0, 1) := by decide +kernel
theorem dX1_isFitting_49 : decode cX1_isFitting 49 = .ok (.ireturn, 1) := by decide +kernel
def F_X1_isFitting (n : Nat) (S : aSt) (a0 : Nat) (a1 : Int32) (a2 : Int32) : Option Int32 :=
(F_X1_meaningOf n S a0 a1).bind fun r2 =>
rfd (S.2.2 a0 0) 7 fun k7 =>
grd (inb a1 (SH k7).2) <|
rfd (S.2.2 a0 2) 7 fun k13 =>
grd (inb a2 (SH k13).2) <|
(F_X0_isA n S (S.1 k7 a1.toNatClampNeg) (S.1 k13 a2.toNatClampNeg)).bind fun r18 =>
if r18 = 0 then (some (0 : Int32)) else
rfd (S.2.2 a0 3) 7 fun k26 =>
grd (inb a2 (SH k26).2) <|
if r2 < (S.1 k26 a2.toNatClampNeg) then (some (0 : Int32)) else
rfd (S.2.2 a0 4) 7 fun k36 =>
grd (inb a2 (SH k36).2) <|
if (S.1 k36 a2.toNatClampNeg) < r2 then (some (0 : Int32)) else
some (1 : Int32)
set_option maxHeartbeats 4000000 in
set_option maxRecDepth 100000 in
theorem C_X1_isFitting (G : aG) (l : Launch) (n : Nat) (S : aSt) (a0 : Nat) (a1 : Int32) (a2 : Int32) (r : Int32) (ha0 : isT a0 0 = true) (hf : F_X1_isFitting n S a0 a1 a2 = some r) : Ctr G l yX1_isFitting mX1_isFitting (rmM 3) 97 97 S [.ref a0, .int a1, .int a2] (some (.int r)) S := by
  refine Ctr.of (by decide) rfl rfl (Nat.le_of_ble_eq_true rfl) [(0, .ref a0), (1, .int a1), (2, .int a2)] rfl ?_
  unfold F_X1_isFitting at hf
  refine Go.aload_n 0 1 rfl dX1_isFitting_0 rfl ?_
  refine Go.iload_n 1 2 rfl dX1_isFitting_1 rfl ?_
  obtain ⟨r2, er2, hf⟩ := f_bnd hf
  refine Go.cV 5 [.int a1] [] (C_X1_meaningOf G l n S a0 a1 r2 ha0 er2) rfl dX1_isFitting_2 cv_X1_108 ha0 (by decide) (by decide) rfl (Nat.le_of_ble_eq_true rfl) ?_
  refine Go.istore_n 6 [(3, .int r2), (0, .ref a0), (1, .int a1), (2, .int a2)] rfl dX1_isFitting_5 (by decide) rfl ?_
  refine Go.aload_n 1 7 rfl dX1_isFitting_6 rfl ?_
  obtain ⟨k7, qk7, hk7, hf⟩ := f_rfd hf
  refine Go.getR 10 rfl dX1_isFitting_7 fl_X1_9 rfl (isT_lt ha0) (isT_sh ha0) qk7 ?_
  refine Go.iload_n 2 11 rfl dX1_isFitting_10 rfl ?_
  obtain ⟨g11, hf⟩ := f_grd hf
  refine Go.iald 12 rfl dX1_isFitting_11 (isT_lt hk7) (isT_sh hk7) g11 ?_
  refine Go.aload_n 1 13 rfl dX1_isFitting_12 rfl ?_
  obtain ⟨k13, qk13, hk13, hf⟩ := f_rfd hf
  refine Go.getR 16 rfl dX1_isFitting_13 fl_X1_18 rfl (isT_lt ha0) (isT_sh ha0) qk13 ?_
  refine Go.iload_n 3 17 rfl dX1_isFitting_16 rfl ?_
  obtain ⟨g17, hf⟩ := f_grd hf
  refine Go.iald 18 rfl dX1_isFitting_17 (isT_lt hk13) (isT_sh hk13) g17 ?_
  obtain ⟨r18, er18, hf⟩ := f_bnd hf
  refine Go.cS 21 [.int (S.1 k7 a1.toNatClampNeg), .int (S.1 k13 a2.toNatClampNeg)] [] (C_X0_isA G l n S (S.1 k7 a1.toNatClampNeg) (S.1 k13 a2.toNatClampNeg) r18  er18) rfl dX1_isFitting_18 cx_X1_111 (by decide) (by decide) rfl (Nat.le_of_ble_eq_true rfl) ?_
  refine Go.if_eq 48 24 rfl dX1_isFitting_21 rfl (fun hc => ?_) (fun hc => ?_)
  · replace hf := f_if hf hc
    refine Go.iconst (0 : Int32) 49 rfl dX1_isFitting_48 ci_0 ?_
    exact Go.zr rfl (Or.inl rfl) dX1_isFitting_49 hf
  · replace hf := f_el hf hc
    refine Go.iload_n 0 25 rfl dX1_isFitting_24 rfl ?_
    refine Go.aload_n 1 26 rfl dX1_isFitting_25 rfl ?_
    obtain ⟨k26, qk26, hk26, hf⟩ := f_rfd hf
    refine Go.getR 29 rfl dX1_isFitting_26 fl_X1_21 rfl (isT_lt ha0) (isT_sh ha0) qk26 ?_
    refine Go.iload_n 3 30 rfl dX1_isFitting_29 rfl ?_
    obtain ⟨g30, hf⟩ := f_grd hf
    refine Go.iald 31 rfl dX1_isFitting_30 (isT_lt hk26) (isT_sh hk26) g30 ?_
    refine Go.icmp_lt 48 34 rfl dX1_isFitting_31 rfl (fun hc => ?_) (fun hc => ?_)
    · replace hf := f_if hf hc
      refine Go.iconst (0 : Int32) 49 rfl dX1_isFitting_48 ci_0 ?_
      exact Go.zr rfl (Or.inl rfl) dX1_isFitting_49 hf
    · replace hf := f_el hf hc
      refine Go.iload_n 0 35 rfl dX1_isFitting_34 rfl ?_
      refine Go.aload_n 1 36 rfl dX1_isFitting_35 rfl ?_
      obtain ⟨k36, qk36, hk36, hf⟩ := f_rfd hf
      refine Go.getR 39 rfl dX1_isFitting_36 fl_X1_24 rfl (isT_lt ha0) (isT_sh ha0) qk36 ?_
      refine Go.iload_n 3 40 rfl dX1_isFitting_39 rfl ?_
      obtain ⟨g40, hf⟩ := f_grd hf
      refine Go.iald 41 rfl dX1_isFitting_40 (isT_lt hk36) (isT_sh hk36) g40 ?_
      refine Go.icmp_gt 48 44 rfl dX1_isFitting_41 rfl (fun hc => ?_) (fun hc => ?_)
      · replace hf := f_if hf hc
        refine Go.iconst (0 : Int32) 49 rfl dX1_isFitting_48 ci_0 ?_
        exact Go.zr rfl (Or.inl rfl) dX1_isFitting_49 hf
      · replace hf := f_el hf hc
        refine Go.iconst (1 : Int32) 45 rfl dX1_isFitting_44 ci_1 ?_
        refine Go.goto 49 dX1_isFitting_45 rfl ?_
        exact Go.zr rfl (Or.inr rfl) dX1_isFitting_49 hf
theorem dX1_fittingCards_0 : decode cX1_fittingCards 0 = .ok (.iconst 0, 1) := by decide +kernel
theorem dX1_fittingCards_1 : decode cX1_fittingCards 1 = .ok (.istore_n 2, 1) := by decide +kernel
theorem dX1_fittingCards_2 : decode cX1_fittingCards 2 = .ok (.iconst 0, 1) := by decide +kernel
theorem dX1_fittingCards_3 : decode cX1_fittingCards 3 = .ok (.istore_n 3, 1) := by decide +kernel
theorem dX1_fittingCards_4 : decode cX1_fittingCards 4 = .ok (.iload_n 3, 1) := by decide +kernel
theorem dX1_fittingCards_5 : decode cX1_fittingCards 5 = .ok (.aload_n 0, 1) := by decide +kernel
theorem dX1_fittingCards_6 : decode cX1_fittingCards 6 = .ok (.getfield 37, 3) := by decide +kernel
theorem dX1_fittingCards_9 : decode cX1_fittingCards 9 = .ok (.if_icmp .ge 24, 3) := by decide +kernel
theorem dX1_fittingCards_12 : decode cX1_fittingCards 12 = .ok (.aload_n 0, 1) := by decide +kernel
theorem dX1_fittingCards_13 : decode cX1_fittingCards 13 = .ok (.iload_n 3, 1) := by decide +kernel
theorem dX1_fittingCards_14 : decode cX1_fittingCards 14 = .ok (.iload_n 1, 1) := by decide +kernel
theorem dX1_fittingCards_15 : decode cX1_fittingCards 15 = .ok (.invokevirtual 115, 3) := by decide +kernel
theorem dX1_fittingCards_18 : decode cX1_fittingCards 18 = .ok (.ifCond .eq 9, 3) := by decide +kernel
theorem dX1_fittingCards_21 : decode cX1_fittingCards 21 = .ok (.iload_n 2, 1) := by decide +kernel
theorem dX1_fittingCards_22 : decode cX1_fittingCards 22 = .ok (.iconst 1, 1) := by decide +kernel
theorem dX1_fittingCards_23 : decode cX1_fittingCards 23 = .ok (.iload_n 3, 1) := by decide +kernel
theorem dX1_fittingCards_24 : decode cX1_fittingCards 24 = .ok (.ishl, 1) := by decide +kernel
theorem dX1_fittingCards_25 : decode cX1_fittingCards 25 = .ok (.ior, 1) := by decide +kernel
theorem dX1_fittingCards_26 : decode cX1_fittingCards 26 = .ok (.istore_n 2, 1) := by decide +kernel
theorem dX1_fittingCards_27 : decode cX1_fittingCards 27 = .ok (.iinc 3 1, 3) := by decide +kernel
theorem dX1_fittingCards_30 : decode cX1_fittingCards 30 = .ok (.goto (-26), 3) := by decide +kernel
theorem dX1_fittingCards_33 : decode cX1_fittingCards 33 = .ok (.iload_n 2, 1) := by decide +kernel
theorem dX1_fittingCards_34 : decode cX1_fittingCards 34 = .ok (.ireturn, 1) := by decide +kernel
def F_X1_fittingCards_L4 (n : Nat) (S : aSt) (a0 : Nat) (a1 : Int32) (K33 : Int32 → Option Int32) : Nat → Int32 → Int32 → Option Int32
  | 0, _, _ => none
  | fu + 1, l4_2, l4_3 =>
    if (S.1 a0 7) ≤ l4_3 then (K33 l4_2) else
    (F_X1_isFitting n S a0 l4_3 a1).bind fun r15 =>
    jn (fun (j27_2 : Int32) => (F_X1_fittingCards_L4 n S a0 a1 K33 fu j27_2 (l4_3 + (1 : Int32)) : Option Int32)) fun K27 =>
    if r15 = 0 then (K27 l4_2) else
    nm (l4_2 ||| ((1 : Int32) <<< (l4_3 &&& 31))) fun v26 =>
    K27 v26
def F_X1_fittingCards (n : Nat) (S : aSt) (a0 : Nat) (a1 : Int32) : Option Int32 :=
jn (fun (x33_2 : Int32) => (some x33_2 : Option Int32)) fun K33 =>
F_X1_fittingCards_L4 n S a0 a1 K33 n (0 : Int32) (0 : Int32)
set_option maxHeartbeats 4000000 in
set_option maxRecDepth 100000 in
theorem C_X1_fittingCards (G : aG) (l : Launch) (n : Nat) (S : aSt) (a0 : Nat) (a1 : Int32) (r : Int32) (ha0 : isT a0 0 = true) (hf : F_X1_fittingCards n S a0 a1 = some r) : Ctr G l yX1_fittingCards mX1_fittingCards (rmM 4) 97 97 S [.ref a0, .int a1] (some (.int r)) S := by
  refine Ctr.of (by decide) rfl rfl (Nat.le_of_ble_eq_true rfl) [(0, .ref a0), (1, .int a1)] rfl ?_
  unfold F_X1_fittingCards at hf
  refine Go.iconst (0 : Int32) 1 rfl dX1_fittingCards_0 ci_0 ?_
  refine Go.istore_n 2 [(2, .int (0 : Int32)), (0, .ref a0), (1, .int a1)] rfl dX1_fittingCards_1 (by decide) rfl ?_
  refine Go.iconst (0 : Int32) 3 rfl dX1_fittingCards_2 ci_0 ?_
  refine Go.istore_n 4 [(3, .int (0 : Int32)), (2, .int (0 : Int32)), (0, .ref a0), (1, .int a1)] rfl dX1_fittingCards_3 (by decide) rfl ?_
  obtain ⟨K33, eK33, hf⟩ := f_jn hf
  have J33 : ∀ (x33_2 : Int32), K33 x33_2 = some r → GoM G l 4 (TmR G (some (.int r)) 97 S 0 0) mX1_fittingCards 33 [(2, .int x33_2)] [] S := by
    intro x33_2 hf
    rw [eK33] at hf
    refine Go.iload_n 0 34 rfl dX1_fittingCards_33 rfl ?_
    exact Go.ir rfl dX1_fittingCards_34 hf
  clear eK33
  have L4 : ∀ (fu : Nat) (l4_2 : Int32) (l4_3 : Int32), F_X1_fittingCards_L4 n S a0 a1 K33 fu l4_2 l4_3 = some r → GoM G l 4 (TmR G (some (.int r)) 97 S 0 0) mX1_fittingCards 4 [(0, .ref a0), (1, .int a1), (2, .int l4_2), (3, .int l4_3)] [] S := by
    intro fu
    induction fu with
    | zero => intro l4_2 l4_3 hf; rw [F_X1_fittingCards_L4] at hf; cases hf
    | succ fu ih =>
      intro l4_2 l4_3 hf
      rw [F_X1_fittingCards_L4] at hf
      refine Go.iload_n 3 5 rfl dX1_fittingCards_4 rfl ?_
      refine Go.aload_n 0 6 rfl dX1_fittingCards_5 rfl ?_
      refine Go.getI 9 rfl dX1_fittingCards_6 fl_X1_37 rfl (isT_lt ha0) (isT_sh ha0) ?_
      refine Go.icmp_ge 33 12 rfl dX1_fittingCards_9 rfl (fun hc => ?_) (fun hc => ?_)
      · replace hf := f_if hf hc
        exact Go.sub [2] [(2, .int l4_2)] rfl (J33 l4_2 hf)
      · replace hf := f_el hf hc
        refine Go.aload_n 0 13 rfl dX1_fittingCards_12 rfl ?_
        refine Go.iload_n 3 14 rfl dX1_fittingCards_13 rfl ?_
        refine Go.iload_n 1 15 rfl dX1_fittingCards_14 rfl ?_
        obtain ⟨r15, er15, hf⟩ := f_bnd hf
        refine Go.cV 18 [.int l4_3, .int a1] [] (C_X1_isFitting G l n S a0 l4_3 a1 r15 ha0 er15) rfl dX1_fittingCards_15 cv_X1_115 ha0 (by decide) (by decide) rfl (Nat.le_of_ble_eq_true rfl) ?_
        obtain ⟨K27, eK27, hf⟩ := f_jn hf
        have J27 : ∀ (j27_2 : Int32), K27 j27_2 = some r → GoM G l 4 (TmR G (some (.int r)) 97 S 0 0) mX1_fittingCards 27 [(0, .ref a0), (1, .int a1), (2, .int j27_2), (3, .int l4_3)] [] S := by
          intro j27_2 hf
          rw [eK27] at hf
          refine Go.inc 3 30 (1 : Int32) [(3, .int (l4_3 + (1 : Int32))), (0, .ref a0), (1, .int a1), (2, .int j27_2)] rfl dX1_fittingCards_27 rfl ci_1 (by decide) rfl ?_
          refine Go.goto 4 dX1_fittingCards_30 rfl ?_
          exact Go.sub [1, 2, 3, 0] [(0, .ref a0), (1, .int a1), (2, .int j27_2), (3, .int (l4_3 + (1 : Int32)))] rfl (ih j27_2 (l4_3 + (1 : Int32)) hf)
        clear eK27
        refine Go.if_eq 27 21 rfl dX1_fittingCards_18 rfl (fun hc => ?_) (fun hc => ?_)
        · replace hf := f_if hf hc
          exact J27 l4_2 hf
        · replace hf := f_el hf hc
          refine Go.iload_n 2 22 rfl dX1_fittingCards_21 rfl ?_
          refine Go.iconst (1 : Int32) 23 rfl dX1_fittingCards_22 ci_1 ?_
          refine Go.iload_n 3 24 rfl dX1_fittingCards_23 rfl ?_
          refine Go.ishl 25 rfl dX1_fittingCards_24 ?_
          refine Go.ior 26 rfl dX1_fittingCards_25 ?_
          obtain ⟨v26, ev26, hf⟩ := f_nm hf
          refine Go.topi v26 ev26 ?_
          refine Go.istore_n 27 [(2, .int v26), (0, .ref a0), (1, .int a1), (3, .int l4_3)] rfl dX1_fittingCards_26 (by decide) rfl ?_
          exact Go.sub [1, 2, 0, 3] [(0, .ref a0), (1, .int a1), (2, .int v26), (3, .int l4_3)] rfl (J27 v26 hf)
  exact Go.sub [2, 3, 1, 0] [(0, .ref a0), (1, .int a1), (2, .int (0 : Int32)), (3, .int (0 : Int32))] rfl (L4 n (0 : Int32) (0 : Int32) hf)
