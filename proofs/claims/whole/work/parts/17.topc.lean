/-! written by program: X6_never X6_parts X6_finds X6_left X6_forged X6_beside X6_habit X6_order X6_byAge X6_lots X6_asked X6_upper X6_lower X6_keptThere X6_thereAmong X6_count X6_finding X6_findings -/
theorem dX6_never_0 : decode cX6_never 0 = .ok (.iconst 0, 1) := by decide +kernel
theorem dX6_never_1 : decode cX6_never 1 = .ok (.istore_n 1, 1) := by decide +kernel
theorem dX6_never_2 : decode cX6_never 2 = .ok (.iconst 0, 1) := by decide +kernel
theorem dX6_never_3 : decode cX6_never 3 = .ok (.istore_n 2, 1) := by decide +kernel
theorem dX6_never_4 : decode cX6_never 4 = .ok (.iload_n 2, 1) := by decide +kernel
theorem dX6_never_5 : decode cX6_never 5 = .ok (.aload_n 0, 1) := by decide +kernel
theorem dX6_never_6 : decode cX6_never 6 = .ok (.getfield 45, 3) := by decide +kernel
theorem dX6_never_9 : decode cX6_never 9 = .ok (.getfield 204, 3) := by decide +kernel
theorem dX6_never_12 : decode cX6_never 12 = .ok (.if_icmp .ge 26, 3) := by decide +kernel
theorem dX6_never_15 : decode cX6_never 15 = .ok (.aload_n 0, 1) := by decide +kernel
theorem dX6_never_16 : decode cX6_never 16 = .ok (.getfield 45, 3) := by decide +kernel
theorem dX6_never_19 : decode cX6_never 19 = .ok (.iload_n 2, 1) := by decide +kernel
theorem dX6_never_20 : decode cX6_never 20 = .ok (.invokevirtual 228, 3) := by decide +kernel
theorem dX6_never_23 : decode cX6_never 23 = .ok (.ifCond .ne 9, 3) := by decide +kernel
theorem dX6_never_26 : decode cX6_never 26 = .ok (.iload_n 1, 1) := by decide +kernel
theorem dX6_never_27 : decode cX6_never 27 = .ok (.iconst 1, 1) := by decide +kernel
theorem dX6_never_28 : decode cX6_never 28 = .ok (.iload_n 2, 1) := by decide +kernel
theorem dX6_never_29 : decode cX6_never 29 = .ok (.ishl, 1) := by decide +kernel
theorem dX6_never_30 : decode cX6_never 30 = .ok (.ior, 1) := by decide +kernel
theorem dX6_never_31 : decode cX6_never 31 = .ok (.istore_n 1, 1) := by decide +kernel
theorem dX6_never_32 : decode cX6_never 32 = .ok (.iinc 2 1, 3) := by decide +kernel
theorem dX6_never_35 : decode cX6_never 35 = .ok (.goto (-31), 3) := by decide +kernel
theorem dX6_never_38 : decode cX6_never 38 = .ok (.iload_n 1, 1) := by decide +kernel
theorem dX6_never_39 : decode cX6_never 39 = .ok (.ireturn, 1) := by decide +kernel
def F_X6_never_L4 (n : Nat) (S : aSt) (a0 : Nat) (K38 : Int32 → Option Int32) : Nat → Int32 → Int32 → Option Int32
  | 0, _, _ => none
  | fu + 1, l4_1, l4_2 =>
    rfd (S.2.2 a0 6) 0 fun k6 =>
    if (S.1 k6 8) ≤ l4_2 then (K38 l4_1) else
    (F_X1_trueCards n S k6 l4_2).bind fun r20 =>
    jn (fun (j32_1 : Int32) => (F_X6_never_L4 n S a0 K38 fu j32_1 (l4_2 + (1 : Int32)) : Option Int32)) fun K32 =>
    if r20 = 0 then (nm (l4_1 ||| ((1 : Int32) <<< (l4_2 &&& 31))) fun v31 =>
    K32 v31) else
    K32 l4_1
def F_X6_never (n : Nat) (S : aSt) (a0 : Nat) : Option Int32 :=
jn (fun (x38_1 : Int32) => (some x38_1 : Option Int32)) fun K38 =>
F_X6_never_L4 n S a0 K38 n (0 : Int32) (0 : Int32)
set_option maxHeartbeats 4000000 in
set_option maxRecDepth 100000 in
theorem C_X6_never (G : aG) (l : Launch) (n : Nat) (S : aSt) (a0 : Nat) (r : Int32) (ha0 : isT a0 5 = true) (hf : F_X6_never n S a0 = some r) : Ctr G l yX6_never mX6_never (rmM 5) 97 97 S [.ref a0] (some (.int r)) S := by
  refine Ctr.of (by decide) rfl rfl (Nat.le_of_ble_eq_true rfl) [(0, .ref a0)] rfl ?_
  unfold F_X6_never at hf
  refine Go.iconst (0 : Int32) 1 rfl dX6_never_0 ci_0 ?_
  refine Go.istore_n 2 [(1, .int (0 : Int32)), (0, .ref a0)] rfl dX6_never_1 (by decide) rfl ?_
  refine Go.iconst (0 : Int32) 3 rfl dX6_never_2 ci_0 ?_
  refine Go.istore_n 4 [(2, .int (0 : Int32)), (1, .int (0 : Int32)), (0, .ref a0)] rfl dX6_never_3 (by decide) rfl ?_
  obtain ⟨K38, eK38, hf⟩ := f_jn hf
  have J38 : ∀ (x38_1 : Int32), K38 x38_1 = some r → GoM G l 5 (TmR G (some (.int r)) 97 S 0 0) mX6_never 38 [(1, .int x38_1)] [] S := by
    intro x38_1 hf
    rw [eK38] at hf
    refine Go.iload_n 0 39 rfl dX6_never_38 rfl ?_
    exact Go.ir rfl dX6_never_39 hf
  clear eK38
  have L4 : ∀ (fu : Nat) (l4_1 : Int32) (l4_2 : Int32), F_X6_never_L4 n S a0 K38 fu l4_1 l4_2 = some r → GoM G l 5 (TmR G (some (.int r)) 97 S 0 0) mX6_never 4 [(0, .ref a0), (1, .int l4_1), (2, .int l4_2)] [] S := by
    intro fu
    induction fu with
    | zero => intro l4_1 l4_2 hf; rw [F_X6_never_L4] at hf; cases hf
    | succ fu ih =>
      intro l4_1 l4_2 hf
      rw [F_X6_never_L4] at hf
      refine Go.iload_n 2 5 rfl dX6_never_4 rfl ?_
      refine Go.aload_n 0 6 rfl dX6_never_5 rfl ?_
      obtain ⟨k6, qk6, hk6, hf⟩ := f_rfd hf
      refine Go.getR 9 rfl dX6_never_6 fl_X6_45 rfl (isT_lt ha0) (isT_sh ha0) qk6 ?_
      refine Go.getI 12 rfl dX6_never_9 fl_X6_204 rfl (isT_lt hk6) (isT_sh hk6) ?_
      refine Go.icmp_ge 38 15 rfl dX6_never_12 rfl (fun hc => ?_) (fun hc => ?_)
      · replace hf := f_if hf hc
        exact Go.sub [1] [(1, .int l4_1)] rfl (J38 l4_1 hf)
      · replace hf := f_el hf hc
        refine Go.aload_n 0 16 rfl dX6_never_15 rfl ?_
        refine Go.getR 19 rfl dX6_never_16 fl_X6_45 rfl (isT_lt ha0) (isT_sh ha0) qk6 ?_
        refine Go.iload_n 2 20 rfl dX6_never_19 rfl ?_
        obtain ⟨r20, er20, hf⟩ := f_bnd hf
        refine Go.cV 23 [.int l4_2] [] (C_X1_trueCards G l n S k6 l4_2 r20 hk6 er20) rfl dX6_never_20 cv_X6_228 hk6 (by decide) (by decide) rfl (Nat.le_of_ble_eq_true rfl) ?_
        obtain ⟨K32, eK32, hf⟩ := f_jn hf
        have J32 : ∀ (j32_1 : Int32), K32 j32_1 = some r → GoM G l 5 (TmR G (some (.int r)) 97 S 0 0) mX6_never 32 [(0, .ref a0), (1, .int j32_1), (2, .int l4_2)] [] S := by
          intro j32_1 hf
          rw [eK32] at hf
          refine Go.inc 2 35 (1 : Int32) [(2, .int (l4_2 + (1 : Int32))), (0, .ref a0), (1, .int j32_1)] rfl dX6_never_32 rfl ci_1 (by decide) rfl ?_
          refine Go.goto 4 dX6_never_35 rfl ?_
          exact Go.sub [1, 2, 0] [(0, .ref a0), (1, .int j32_1), (2, .int (l4_2 + (1 : Int32)))] rfl (ih j32_1 (l4_2 + (1 : Int32)) hf)
        clear eK32
        refine Go.if_ne 32 26 rfl dX6_never_23 rfl (fun hc => ?_) (fun hc => ?_)
        · replace hf := f_el hf hc
          exact J32 l4_1 hf
        · replace hf := f_if hf hc
          refine Go.iload_n 1 27 rfl dX6_never_26 rfl ?_
          refine Go.iconst (1 : Int32) 28 rfl dX6_never_27 ci_1 ?_
          refine Go.iload_n 2 29 rfl dX6_never_28 rfl ?_
          refine Go.ishl 30 rfl dX6_never_29 ?_
          refine Go.ior 31 rfl dX6_never_30 ?_
          obtain ⟨v31, ev31, hf⟩ := f_nm hf
          refine Go.topi v31 ev31 ?_
          refine Go.istore_n 32 [(1, .int v31), (0, .ref a0), (2, .int l4_2)] rfl dX6_never_31 (by decide) rfl ?_
          exact Go.sub [1, 0, 2] [(0, .ref a0), (1, .int v31), (2, .int l4_2)] rfl (J32 v31 hf)
  exact Go.sub [2, 1, 0] [(0, .ref a0), (1, .int (0 : Int32)), (2, .int (0 : Int32))] rfl (L4 n (0 : Int32) (0 : Int32) hf)
theorem dX6_parts_0 : decode cX6_parts 0 = .ok (.aload_n 0, 1) := by decide +kernel
theorem dX6_parts_1 : decode cX6_parts 1 = .ok (.getfield 45, 3) := by decide +kernel
theorem dX6_parts_4 : decode cX6_parts 4 = .ok (.getfield 115, 3) := by decide +kernel
theorem dX6_parts_7 : decode cX6_parts 7 = .ok (.ifCond .ne 6, 3) := by decide +kernel
theorem dX6_parts_10 : decode cX6_parts 10 = .ok (.bipush (-4), 2) := by decide +kernel
theorem dX6_parts_12 : decode cX6_parts 12 = .ok (.ireturn, 1) := by decide +kernel
theorem dX6_parts_13 : decode cX6_parts 13 = .ok (.aload_n 0, 1) := by decide +kernel
theorem dX6_parts_14 : decode cX6_parts 14 = .ok (.getfield 38, 3) := by decide +kernel
theorem dX6_parts_17 : decode cX6_parts 17 = .ok (.aload_n 0, 1) := by decide +kernel
theorem dX6_parts_18 : decode cX6_parts 18 = .ok (.getfield 45, 3) := by decide +kernel
theorem dX6_parts_21 : decode cX6_parts 21 = .ok (.invokevirtual 231, 3) := by decide +kernel
theorem dX6_parts_24 : decode cX6_parts 24 = .ok (.aload_n 0, 1) := by decide +kernel
theorem dX6_parts_25 : decode cX6_parts 25 = .ok (.aload_n 0, 1) := by decide +kernel
theorem dX6_parts_26 : decode cX6_parts 26 = .ok (.getfield 38, 3) := by decide +kernel
theorem dX6_parts_29 : decode cX6_parts 29 = .ok (.getfield 234, 3) := by decide +kernel
theorem dX6_parts_32 : decode cX6_parts 32 = .ok (.putfield 52, 3) := by decide +kernel
theorem dX6_parts_35 : decode cX6_parts 35 = .ok (.aload_n 0, 1) := by decide +kernel
theorem dX6_parts_36 : decode cX6_parts 36 = .ok (.getfield 38, 3) := by decide +kernel
theorem dX6_parts_39 : decode cX6_parts 39 = .ok (.getfield 237, 3) := by decide +kernel
theorem dX6_parts_42 : decode cX6_parts 42 = .ok (.ireturn, 1) := by decide +kernel
def F_X6_parts (n : Nat) (S : aSt) (a0 : Nat) : Option (Int32 × aSt) :=
rfd (S.2.2 a0 6) 0 fun k1 =>
if (S.1 k1 7) = 0 then (some ((-4 : Int32), S)) else
rfd (S.2.2 a0 5) 2 fun k14 =>
(F_X3_partBest n S k14 k1).bind fun S21 =>
rfd (S21.2.2 a0 5) 2 fun k26 =>
nm (stI S21 a0 8 (S21.1 k26 4)) fun S32 =>
rfd (S32.2.2 a0 5) 2 fun k36 =>
some ((S32.1 k36 3), S32)
set_option maxHeartbeats 4000000 in
set_option maxRecDepth 100000 in
theorem C_X6_parts (G : aG) (l : Launch) (n : Nat) (S : aSt) (a0 : Nat) (r : Int32) (Sr : aSt) (ha0 : isT a0 5 = true) (hf : F_X6_parts n S a0 = some (r, Sr)) : Ctr G l yX6_parts mX6_parts (rmM 5) 97 97 S [.ref a0] (some (.int r)) Sr := by
  refine Ctr.of (by decide) rfl rfl (Nat.le_of_ble_eq_true rfl) [(0, .ref a0)] rfl ?_
  unfold F_X6_parts at hf
  refine Go.aload_n 0 1 rfl dX6_parts_0 rfl ?_
  obtain ⟨k1, qk1, hk1, hf⟩ := f_rfd hf
  refine Go.getR 4 rfl dX6_parts_1 fl_X6_45 rfl (isT_lt ha0) (isT_sh ha0) qk1 ?_
  refine Go.getI 7 rfl dX6_parts_4 fl_X6_115 rfl (isT_lt hk1) (isT_sh hk1) ?_
  refine Go.if_ne 13 10 rfl dX6_parts_7 rfl (fun hc => ?_) (fun hc => ?_)
  · replace hf := f_el hf hc
    refine Go.aload_n 0 14 rfl dX6_parts_13 rfl ?_
    obtain ⟨k14, qk14, hk14, hf⟩ := f_rfd hf
    refine Go.getR 17 rfl dX6_parts_14 fl_X6_38 rfl (isT_lt ha0) (isT_sh ha0) qk14 ?_
    refine Go.aload_n 0 18 rfl dX6_parts_17 rfl ?_
    refine Go.getR 21 rfl dX6_parts_18 fl_X6_45 rfl (isT_lt ha0) (isT_sh ha0) qk1 ?_
    obtain ⟨S21, eS21, hf⟩ := f_bnd hf
    refine Go.cVv 24 [.ref k1] [] (C_X3_partBest G l n S k14 k1 S21 hk14 hk1 eS21) rfl dX6_parts_21 cv_X6_231 hk14 (by decide) (by decide) rfl (Nat.le_of_ble_eq_true rfl) ?_
    refine Go.aload_n 0 25 rfl dX6_parts_24 rfl ?_
    refine Go.aload_n 0 26 rfl dX6_parts_25 rfl ?_
    obtain ⟨k26, qk26, hk26, hf⟩ := f_rfd hf
    refine Go.getR 29 rfl dX6_parts_26 fl_X6_38 rfl (isT_lt ha0) (isT_sh ha0) qk26 ?_
    refine Go.getI 32 rfl dX6_parts_29 fl_X6_234 rfl (isT_lt hk26) (isT_sh hk26) ?_
    obtain ⟨S32, eS32, hf⟩ := f_nm hf
    refine Go.putI 35 rfl dX6_parts_32 fp_X6_52 rfl (isT_lt ha0) (isT_sh ha0) (fun h => by cases h) (Go.stt S32 eS32 ?_)
    refine Go.aload_n 0 36 rfl dX6_parts_35 rfl ?_
    obtain ⟨k36, qk36, hk36, hf⟩ := f_rfd hf
    refine Go.getR 39 rfl dX6_parts_36 fl_X6_38 rfl (isT_lt ha0) (isT_sh ha0) qk36 ?_
    refine Go.getI 42 rfl dX6_parts_39 fl_X6_237 rfl (isT_lt hk36) (isT_sh hk36) ?_
    exact Go.irS rfl dX6_parts_42 hf
  · replace hf := f_if hf hc
    refine Go.bipush (-4 : Int32) 12 rfl dX6_parts_10 cb_m4 ?_
    exact Go.irS rfl dX6_parts_12 hf
theorem dX6_finds_0 : decode cX6_finds 0 = .ok (.iload_n 1, 1) := by decide +kernel
theorem dX6_finds_1 : decode cX6_finds 1 = .ok (.ifCond .le 16, 3) := by decide +kernel
theorem dX6_finds_4 : decode cX6_finds 4 = .ok (.iload_n 1, 1) := by decide +kernel
theorem dX6_finds_5 : decode cX6_finds 5 = .ok (.iconst 1, 1) := by decide +kernel
theorem dX6_finds_6 : decode cX6_finds 6 = .ok (.aload_n 0, 1) := by decide +kernel
theorem dX6_finds_7 : decode cX6_finds 7 = .ok (.getfield 45, 3) := by decide +kernel
theorem dX6_finds_10 : decode cX6_finds 10 = .ok (.getfield 115, 3) := by decide +kernel
theorem dX6_finds_13 : decode cX6_finds 13 = .ok (.ishl, 1) := by decide +kernel
theorem dX6_finds_14 : decode cX6_finds 14 = .ok (.if_icmp .lt 5, 3) := by decide +kernel
theorem dX6_finds_17 : decode cX6_finds 17 = .ok (.iconst (-1), 1) := by decide +kernel
theorem dX6_finds_18 : decode cX6_finds 18 = .ok (.ireturn, 1) := by decide +kernel
theorem dX6_finds_19 : decode cX6_finds 19 = .ok (.aload_n 0, 1) := by decide +kernel
theorem dX6_finds_20 : decode cX6_finds 20 = .ok (.getfield 38, 3) := by decide +kernel
theorem dX6_finds_23 : decode cX6_finds 23 = .ok (.aload_n 0, 1) := by decide +kernel
theorem dX6_finds_24 : decode cX6_finds 24 = .ok (.getfield 45, 3) := by decide +kernel
theorem dX6_finds_27 : decode cX6_finds 27 = .ok (.iload_n 1, 1) := by decide +kernel
theorem dX6_finds_28 : decode cX6_finds 28 = .ok (.invokevirtual 240, 3) := by decide +kernel
theorem dX6_finds_31 : decode cX6_finds 31 = .ok (.aload_n 0, 1) := by decide +kernel
theorem dX6_finds_32 : decode cX6_finds 32 = .ok (.getfield 38, 3) := by decide +kernel
theorem dX6_finds_35 : decode cX6_finds 35 = .ok (.getfield 244, 3) := by decide +kernel
theorem dX6_finds_38 : decode cX6_finds 38 = .ok (.bipush (-9), 2) := by decide +kernel
theorem dX6_finds_40 : decode cX6_finds 40 = .ok (.if_icmp .eq 14, 3) := by decide +kernel
theorem dX6_finds_43 : decode cX6_finds 43 = .ok (.aload_n 0, 1) := by decide +kernel
theorem dX6_finds_44 : decode cX6_finds 44 = .ok (.aload_n 0, 1) := by decide +kernel
theorem dX6_finds_45 : decode cX6_finds 45 = .ok (.getfield 38, 3) := by decide +kernel
theorem dX6_finds_48 : decode cX6_finds 48 = .ok (.getfield 237, 3) := by decide +kernel
theorem dX6_finds_51 : decode cX6_finds 51 = .ok (.putfield 52, 3) := by decide +kernel
theorem dX6_finds_54 : decode cX6_finds 54 = .ok (.aload_n 0, 1) := by decide +kernel
theorem dX6_finds_55 : decode cX6_finds 55 = .ok (.getfield 38, 3) := by decide +kernel
theorem dX6_finds_58 : decode cX6_finds 58 = .ok (.getfield 244, 3) := by decide +kernel
theorem dX6_finds_61 : decode cX6_finds 61 = .ok (.ireturn, 1) := by decide +kernel
def F_X6_finds (n : Nat) (S : aSt) (a0 : Nat) (a1 : Int32) : Option (Int32 × aSt) :=
if a1 ≤ 0 then (some ((-1 : Int32), S)) else
rfd (S.2.2 a0 6) 0 fun k7 =>
if a1 < ((1 : Int32) <<< ((S.1 k7 7) &&& 31)) then (rfd (S.2.2 a0 5) 2 fun k20 =>
(F_X3_findIn n S k20 k7 a1).bind fun S28 =>
rfd (S28.2.2 a0 5) 2 fun k32 =>
jn (fun (j54S : aSt) => (rfd (j54S.2.2 a0 5) 2 fun k55 =>
some ((j54S.1 k55 5), j54S) : Option (Int32 × aSt))) fun K54 =>
if (S28.1 k32 5) = (-9 : Int32) then (K54 S28) else
nm (stI S28 a0 8 (S28.1 k32 3)) fun S51 =>
K54 S51) else
some ((-1 : Int32), S)
set_option maxHeartbeats 4000000 in
set_option maxRecDepth 100000 in
theorem C_X6_finds (G : aG) (l : Launch) (n : Nat) (S : aSt) (a0 : Nat) (a1 : Int32) (r : Int32) (Sr : aSt) (ha0 : isT a0 5 = true) (hf : F_X6_finds n S a0 a1 = some (r, Sr)) : Ctr G l yX6_finds mX6_finds (rmM 6) 97 97 S [.ref a0, .int a1] (some (.int r)) Sr := by
  refine Ctr.of (by decide) rfl rfl (Nat.le_of_ble_eq_true rfl) [(0, .ref a0), (1, .int a1)] rfl ?_
  unfold F_X6_finds at hf
  refine Go.iload_n 1 1 rfl dX6_finds_0 rfl ?_
  refine Go.if_le 17 4 rfl dX6_finds_1 rfl (fun hc => ?_) (fun hc => ?_)
  · replace hf := f_if hf hc
    refine Go.iconst (-1 : Int32) 18 rfl dX6_finds_17 ci_m1 ?_
    exact Go.irS rfl dX6_finds_18 hf
  · replace hf := f_el hf hc
    refine Go.iload_n 1 5 rfl dX6_finds_4 rfl ?_
    refine Go.iconst (1 : Int32) 6 rfl dX6_finds_5 ci_1 ?_
    refine Go.aload_n 0 7 rfl dX6_finds_6 rfl ?_
    obtain ⟨k7, qk7, hk7, hf⟩ := f_rfd hf
    refine Go.getR 10 rfl dX6_finds_7 fl_X6_45 rfl (isT_lt ha0) (isT_sh ha0) qk7 ?_
    refine Go.getI 13 rfl dX6_finds_10 fl_X6_115 rfl (isT_lt hk7) (isT_sh hk7) ?_
    refine Go.ishl 14 rfl dX6_finds_13 ?_
    refine Go.icmp_lt 19 17 rfl dX6_finds_14 rfl (fun hc => ?_) (fun hc => ?_)
    · replace hf := f_if hf hc
      refine Go.aload_n 0 20 rfl dX6_finds_19 rfl ?_
      obtain ⟨k20, qk20, hk20, hf⟩ := f_rfd hf
      refine Go.getR 23 rfl dX6_finds_20 fl_X6_38 rfl (isT_lt ha0) (isT_sh ha0) qk20 ?_
      refine Go.aload_n 0 24 rfl dX6_finds_23 rfl ?_
      refine Go.getR 27 rfl dX6_finds_24 fl_X6_45 rfl (isT_lt ha0) (isT_sh ha0) qk7 ?_
      refine Go.iload_n 1 28 rfl dX6_finds_27 rfl ?_
      obtain ⟨S28, eS28, hf⟩ := f_bnd hf
      refine Go.cVv 31 [.ref k7, .int a1] [] (C_X3_findIn G l n S k20 k7 a1 S28 hk20 hk7 eS28) rfl dX6_finds_28 cv_X6_240 hk20 (by decide) (by decide) rfl (Nat.le_of_ble_eq_true rfl) ?_
      refine Go.aload_n 0 32 rfl dX6_finds_31 rfl ?_
      obtain ⟨k32, qk32, hk32, hf⟩ := f_rfd hf
      refine Go.getR 35 rfl dX6_finds_32 fl_X6_38 rfl (isT_lt ha0) (isT_sh ha0) qk32 ?_
      refine Go.getI 38 rfl dX6_finds_35 fl_X6_244 rfl (isT_lt hk32) (isT_sh hk32) ?_
      refine Go.bipush (-9 : Int32) 40 rfl dX6_finds_38 cb_m9 ?_
      obtain ⟨K54, eK54, hf⟩ := f_jn hf
      have J54 : ∀ (j54S : aSt), K54 j54S = some (r, Sr) → GoM G l 6 (TmR G (some (.int r)) 97 Sr 0 0) mX6_finds 54 [(0, .ref a0)] [] j54S := by
        intro j54S hf
        rw [eK54] at hf
        refine Go.aload_n 0 55 rfl dX6_finds_54 rfl ?_
        obtain ⟨k55, qk55, hk55, hf⟩ := f_rfd hf
        refine Go.getR 58 rfl dX6_finds_55 fl_X6_38 rfl (isT_lt ha0) (isT_sh ha0) qk55 ?_
        refine Go.getI 61 rfl dX6_finds_58 fl_X6_244 rfl (isT_lt hk55) (isT_sh hk55) ?_
        exact Go.irS rfl dX6_finds_61 hf
      clear eK54
      refine Go.icmp_eq 54 43 rfl dX6_finds_40 rfl (fun hc => ?_) (fun hc => ?_)
      · replace hf := f_if hf hc
        exact Go.sub [0] [(0, .ref a0)] rfl (J54 S28 hf)
      · replace hf := f_el hf hc
        refine Go.aload_n 0 44 rfl dX6_finds_43 rfl ?_
        refine Go.aload_n 0 45 rfl dX6_finds_44 rfl ?_
        refine Go.getR 48 rfl dX6_finds_45 fl_X6_38 rfl (isT_lt ha0) (isT_sh ha0) qk32 ?_
        refine Go.getI 51 rfl dX6_finds_48 fl_X6_237 rfl (isT_lt hk32) (isT_sh hk32) ?_
        obtain ⟨S51, eS51, hf⟩ := f_nm hf
        refine Go.putI 54 rfl dX6_finds_51 fp_X6_52 rfl (isT_lt ha0) (isT_sh ha0) (fun h => by cases h) (Go.stt S51 eS51 ?_)
        exact Go.sub [0] [(0, .ref a0)] rfl (J54 S51 hf)
    · replace hf := f_el hf hc
      refine Go.iconst (-1 : Int32) 18 rfl dX6_finds_17 ci_m1 ?_
      exact Go.irS rfl dX6_finds_18 hf
theorem dX6_left_0 : decode cX6_left 0 = .ok (.iload_n 1, 1) := by decide +kernel
theorem dX6_left_1 : decode cX6_left 1 = .ok (.invokestatic 70, 3) := by decide +kernel
theorem dX6_left_4 : decode cX6_left 4 = .ok (.ifCond .ne 5, 3) := by decide +kernel
theorem dX6_left_7 : decode cX6_left 7 = .ok (.iconst (-1), 1) := by decide +kernel
theorem dX6_left_8 : decode cX6_left 8 = .ok (.ireturn, 1) := by decide +kernel
theorem dX6_left_9 : decode cX6_left 9 = .ok (.aload_n 0, 1) := by decide +kernel
theorem dX6_left_10 : decode cX6_left 10 = .ok (.getfield 11, 3) := by decide +kernel
theorem dX6_left_13 : decode cX6_left 13 = .ok (.iload_n 1, 1) := by decide +kernel
theorem dX6_left_14 : decode cX6_left 14 = .ok (.aaload, 1) := by decide +kernel
theorem dX6_left_15 : decode cX6_left 15 = .ok (.astore_n 2, 1) := by decide +kernel
theorem dX6_left_16 : decode cX6_left 16 = .ok (.aload_n 2, 1) := by decide +kernel
theorem dX6_left_17 : decode cX6_left 17 = .ok (.invokevirtual 82, 3) := by decide +kernel
theorem dX6_left_20 : decode cX6_left 20 = .ok (.ifCond .ne 9, 3) := by decide +kernel
theorem dX6_left_23 : decode cX6_left 23 = .ok (.aload_n 0, 1) := by decide +kernel
theorem dX6_left_24 : decode cX6_left 24 = .ok (.iconst 1, 1) := by decide +kernel
theorem dX6_left_25 : decode cX6_left 25 = .ok (.invokevirtual 74, 3) := by decide +kernel
theorem dX6_left_28 : decode cX6_left 28 = .ok (.ireturn, 1) := by decide +kernel
theorem dX6_left_29 : decode cX6_left 29 = .ok (.aload_n 2, 1) := by decide +kernel
theorem dX6_left_30 : decode cX6_left 30 = .ok (.getfield 92, 3) := by decide +kernel
theorem dX6_left_33 : decode cX6_left 33 = .ok (.iconst 2, 1) := by decide +kernel
theorem dX6_left_34 : decode cX6_left 34 = .ok (.irem, 1) := by decide +kernel
theorem dX6_left_35 : decode cX6_left 35 = .ok (.ifCond .eq 9, 3) := by decide +kernel
theorem dX6_left_38 : decode cX6_left 38 = .ok (.aload_n 0, 1) := by decide +kernel
theorem dX6_left_39 : decode cX6_left 39 = .ok (.iconst 5, 1) := by decide +kernel
theorem dX6_left_40 : decode cX6_left 40 = .ok (.invokevirtual 74, 3) := by decide +kernel
theorem dX6_left_43 : decode cX6_left 43 = .ok (.ireturn, 1) := by decide +kernel
theorem dX6_left_44 : decode cX6_left 44 = .ok (.iconst 0, 1) := by decide +kernel
theorem dX6_left_45 : decode cX6_left 45 = .ok (.istore_n 3, 1) := by decide +kernel
theorem dX6_left_46 : decode cX6_left 46 = .ok (.iload_n 3, 1) := by decide +kernel
theorem dX6_left_47 : decode cX6_left 47 = .ok (.iconst 1, 1) := by decide +kernel
theorem dX6_left_48 : decode cX6_left 48 = .ok (.iadd, 1) := by decide +kernel
theorem dX6_left_49 : decode cX6_left 49 = .ok (.aload_n 2, 1) := by decide +kernel
theorem dX6_left_50 : decode cX6_left 50 = .ok (.getfield 92, 3) := by decide +kernel
theorem dX6_left_53 : decode cX6_left 53 = .ok (.if_icmp .ge 54, 3) := by decide +kernel
theorem dX6_left_56 : decode cX6_left 56 = .ok (.aload_n 0, 1) := by decide +kernel
theorem dX6_left_57 : decode cX6_left 57 = .ok (.getfield 45, 3) := by decide +kernel
theorem dX6_left_60 : decode cX6_left 60 = .ok (.aload_n 2, 1) := by decide +kernel
theorem dX6_left_61 : decode cX6_left 61 = .ok (.getfield 89, 3) := by decide +kernel
theorem dX6_left_64 : decode cX6_left 64 = .ok (.iload_n 3, 1) := by decide +kernel
theorem dX6_left_65 : decode cX6_left 65 = .ok (.iaload, 1) := by decide +kernel
theorem dX6_left_66 : decode cX6_left 66 = .ok (.invokevirtual 125, 3) := by decide +kernel
theorem dX6_left_69 : decode cX6_left 69 = .ok (.ifCond .eq 26, 3) := by decide +kernel
theorem dX6_left_72 : decode cX6_left 72 = .ok (.aload_n 2, 1) := by decide +kernel
theorem dX6_left_73 : decode cX6_left 73 = .ok (.getfield 89, 3) := by decide +kernel
theorem dX6_left_76 : decode cX6_left 76 = .ok (.iload_n 3, 1) := by decide +kernel
theorem dX6_left_77 : decode cX6_left 77 = .ok (.iconst 1, 1) := by decide +kernel
theorem dX6_left_78 : decode cX6_left 78 = .ok (.iadd, 1) := by decide +kernel
theorem dX6_left_79 : decode cX6_left 79 = .ok (.iaload, 1) := by decide +kernel
theorem dX6_left_80 : decode cX6_left 80 = .ok (.ifCond .eq 21, 3) := by decide +kernel
theorem dX6_left_83 : decode cX6_left 83 = .ok (.aload_n 2, 1) := by decide +kernel
theorem dX6_left_84 : decode cX6_left 84 = .ok (.getfield 89, 3) := by decide +kernel
theorem dX6_left_87 : decode cX6_left 87 = .ok (.iload_n 3, 1) := by decide +kernel
theorem dX6_left_88 : decode cX6_left 88 = .ok (.iconst 1, 1) := by decide +kernel
theorem dX6_left_89 : decode cX6_left 89 = .ok (.iadd, 1) := by decide +kernel
theorem dX6_left_90 : decode cX6_left 90 = .ok (.iaload, 1) := by decide +kernel
theorem dX6_left_91 : decode cX6_left 91 = .ok (.iconst 1, 1) := by decide +kernel
theorem dX6_left_92 : decode cX6_left 92 = .ok (.if_icmp .eq 9, 3) := by decide +kernel
theorem dX6_left_95 : decode cX6_left 95 = .ok (.aload_n 0, 1) := by decide +kernel
theorem dX6_left_96 : decode cX6_left 96 = .ok (.iconst 3, 1) := by decide +kernel
theorem dX6_left_97 : decode cX6_left 97 = .ok (.invokevirtual 74, 3) := by decide +kernel
theorem dX6_left_100 : decode cX6_left 100 = .ok (.ireturn, 1) := by decide +kernel
theorem dX6_left_101 : decode cX6_left 101 = .ok (.iinc 3 2, 3) := by decide +kernel
theorem dX6_left_104 : decode cX6_left 104 = .ok (.goto (-58), 3) := by decide +kernel
theorem dX6_left_107 : decode cX6_left 107 = .ok (.aload_n 0, 1) := by decide +kernel
theorem dX6_left_108 : decode cX6_left 108 = .ok (.getfield 45, 3) := by decide +kernel
theorem dX6_left_111 : decode cX6_left 111 = .ok (.invokevirtual 247, 3) := by decide +kernel
theorem dX6_left_114 : decode cX6_left 114 = .ok (.istore_n 3, 1) := by decide +kernel
theorem dX6_left_115 : decode cX6_left 115 = .ok (.iconst 0, 1) := by decide +kernel
theorem dX6_left_116 : decode cX6_left 116 = .ok (.istore 4, 2) := by decide +kernel
theorem dX6_left_118 : decode cX6_left 118 = .ok (.iload 4, 2) := by decide +kernel
theorem dX6_left_120 : decode cX6_left 120 = .ok (.iconst 1, 1) := by decide +kernel
theorem dX6_left_121 : decode cX6_left 121 = .ok (.iadd, 1) := by decide +kernel
theorem dX6_left_122 : decode cX6_left 122 = .ok (.aload_n 2, 1) := by decide +kernel
theorem dX6_left_123 : decode cX6_left 123 = .ok (.getfield 92, 3) := by decide +kernel
theorem dX6_left_126 : decode cX6_left 126 = .ok (.if_icmp .ge 50, 3) := by decide +kernel
theorem dX6_left_129 : decode cX6_left 129 = .ok (.aload_n 0, 1) := by decide +kernel
theorem dX6_left_130 : decode cX6_left 130 = .ok (.getfield 45, 3) := by decide +kernel
theorem dX6_left_133 : decode cX6_left 133 = .ok (.aload_n 2, 1) := by decide +kernel
theorem dX6_left_134 : decode cX6_left 134 = .ok (.getfield 89, 3) := by decide +kernel
theorem dX6_left_137 : decode cX6_left 137 = .ok (.iload 4, 2) := by decide +kernel
theorem dX6_left_139 : decode cX6_left 139 = .ok (.iaload, 1) := by decide +kernel
theorem dX6_left_140 : decode cX6_left 140 = .ok (.invokevirtual 155, 3) := by decide +kernel
theorem dX6_left_143 : decode cX6_left 143 = .ok (.istore 5, 2) := by decide +kernel
theorem dX6_left_145 : decode cX6_left 145 = .ok (.iload_n 3, 1) := by decide +kernel
theorem dX6_left_146 : decode cX6_left 146 = .ok (.aload_n 2, 1) := by decide +kernel
theorem dX6_left_147 : decode cX6_left 147 = .ok (.getfield 89, 3) := by decide +kernel
theorem dX6_left_150 : decode cX6_left 150 = .ok (.iload 4, 2) := by decide +kernel
theorem dX6_left_152 : decode cX6_left 152 = .ok (.iconst 1, 1) := by decide +kernel
theorem dX6_left_153 : decode cX6_left 153 = .ok (.iadd, 1) := by decide +kernel
theorem dX6_left_154 : decode cX6_left 154 = .ok (.iaload, 1) := by decide +kernel
theorem dX6_left_155 : decode cX6_left 155 = .ok (.iconst 1, 1) := by decide +kernel
theorem dX6_left_156 : decode cX6_left 156 = .ok (.if_icmp .ne 8, 3) := by decide +kernel
theorem dX6_left_159 : decode cX6_left 159 = .ok (.iload 5, 2) := by decide +kernel
theorem dX6_left_161 : decode cX6_left 161 = .ok (.goto 7, 3) := by decide +kernel
theorem dX6_left_164 : decode cX6_left 164 = .ok (.iload 5, 2) := by decide +kernel
theorem dX6_left_166 : decode cX6_left 166 = .ok (.iconst (-1), 1) := by decide +kernel
theorem dX6_left_167 : decode cX6_left 167 = .ok (.ixor, 1) := by decide +kernel
theorem dX6_left_168 : decode cX6_left 168 = .ok (.iand, 1) := by decide +kernel
theorem dX6_left_169 : decode cX6_left 169 = .ok (.istore_n 3, 1) := by decide +kernel
theorem dX6_left_170 : decode cX6_left 170 = .ok (.iinc 4 2, 3) := by decide +kernel
theorem dX6_left_173 : decode cX6_left 173 = .ok (.goto (-55), 3) := by decide +kernel
theorem dX6_left_176 : decode cX6_left 176 = .ok (.iload_n 3, 1) := by decide +kernel
theorem dX6_left_177 : decode cX6_left 177 = .ok (.ireturn, 1) := by decide +kernel
def F_X6_left_L118 (n : Nat) (k14 : Nat) (x107S : aSt) (k108 : Nat) (K176 : Int32 → Option (Int32 × aSt)) : Nat → Int32 → Int32 → Option (Int32 × aSt)
  | 0, _, _ => none
  | fu + 1, l118_3, l118_4 =>
    if (x107S.1 k14 1) ≤ (l118_4 + (1 : Int32)) then (K176 l118_3) else
    rfd (x107S.2.2 k14 0) 7 fun k134 =>
    grd (inb l118_4 (SH k134).2) <|
    (F_X1_fittingCards n x107S k108 (x107S.1 k134 l118_4.toNatClampNeg)).bind fun r140 =>
    grd (inb (l118_4 + (1 : Int32)) (SH k134).2) <|
    jn (fun (j168s1 : Int32) => (nm (l118_3 &&& j168s1) fun v169 =>
    F_X6_left_L118 n k14 x107S k108 K176 fu v169 (l118_4 + (2 : Int32)) : Option (Int32 × aSt))) fun K168 =>
    if (x107S.1 k134 (l118_4 + (1 : Int32)).toNatClampNeg) = (1 : Int32) then (K168 r140) else
    K168 (r140 ^^^ (-1 : Int32))
def F_X6_left_L46 (n : Nat) (a0 : Nat) (k14 : Nat) (K107 : aSt → Option (Int32 × aSt)) : Nat → Int32 → aSt → Option (Int32 × aSt)
  | 0, _, _ => none
  | fu + 1, l46_3, l46S =>
    if (l46S.1 k14 1) ≤ (l46_3 + (1 : Int32)) then (K107 l46S) else
    rfd (l46S.2.2 a0 6) 0 fun k57 =>
    rfd (l46S.2.2 k14 0) 7 fun k61 =>
    grd (inb l46_3 (SH k61).2) <|
    (F_X1_isQuestion n l46S k57 (l46S.1 k61 l46_3.toNatClampNeg)).bind fun r66 =>
    jn ((bn2 (F_X6_found n l46S a0 (3 : Int32)) fun r97 S97 =>
    some (r97, S97) : Option (Int32 × aSt))) fun K95 =>
    if r66 = 0 then (K95) else
    grd (inb (l46_3 + (1 : Int32)) (SH k61).2) <|
    jn ((F_X6_left_L46 n a0 k14 K107 fu (l46_3 + (2 : Int32)) l46S : Option (Int32 × aSt))) fun K101 =>
    if (l46S.1 k61 (l46_3 + (1 : Int32)).toNatClampNeg) = 0 then (K101) else
    grd (inb (l46_3 + (1 : Int32)) (SH k61).2) <|
    if (l46S.1 k61 (l46_3 + (1 : Int32)).toNatClampNeg) = (1 : Int32) then (K101) else
    K95
def F_X6_left (n : Nat) (S : aSt) (a0 : Nat) (a1 : Int32) : Option (Int32 × aSt) :=
(F_X6_isRow n S a1).bind fun r1 =>
if r1 = 0 then (some ((-1 : Int32), S)) else
rfd (S.2.2 a0 0) 9 fun k10 =>
grd (inb a1 (SH k10).2) <|
rfd (S.2.2 k10 a1.toNatClampNeg) 3 fun k14 =>
(F_X4_isThere n S k14).bind fun r17 =>
if r17 = 0 then (bn2 (F_X6_found n S a0 (1 : Int32)) fun r25 S25 =>
some (r25, S25)) else
if ((S.1 k14 1) - (S.1 k14 1) / (2 : Int32) * (2 : Int32)) = 0 then (jn (fun (x107S : aSt) => (rfd (x107S.2.2 a0 6) 0 fun k108 =>
(F_X1_allCards n x107S k108).bind fun r111 =>
jn (fun (x176_3 : Int32) => (some (x176_3, x107S) : Option (Int32 × aSt))) fun K176 =>
F_X6_left_L118 n k14 x107S k108 K176 n r111 (0 : Int32) : Option (Int32 × aSt))) fun K107 =>
F_X6_left_L46 n a0 k14 K107 n (0 : Int32) S) else
bn2 (F_X6_found n S a0 (5 : Int32)) fun r40 S40 =>
some (r40, S40)
set_option maxHeartbeats 4000000 in
set_option maxRecDepth 100000 in
theorem C_X6_left (G : aG) (l : Launch) (n : Nat) (S : aSt) (a0 : Nat) (a1 : Int32) (r : Int32) (Sr : aSt) (ha0 : isT a0 5 = true) (hf : F_X6_left n S a0 a1 = some (r, Sr)) : Ctr G l yX6_left mX6_left (rmM 5) 97 97 S [.ref a0, .int a1] (some (.int r)) Sr := by
  refine Ctr.of (by decide) rfl rfl (Nat.le_of_ble_eq_true rfl) [(0, .ref a0), (1, .int a1)] rfl ?_
  unfold F_X6_left at hf
  refine Go.iload_n 1 1 rfl dX6_left_0 rfl ?_
  obtain ⟨r1, er1, hf⟩ := f_bnd hf
  refine Go.cS 4 [.int a1] [] (C_X6_isRow G l n S a1 r1  er1) rfl dX6_left_1 cx_X6_70 (by decide) (by decide) rfl (Nat.le_of_ble_eq_true rfl) ?_
  refine Go.if_ne 9 7 rfl dX6_left_4 rfl (fun hc => ?_) (fun hc => ?_)
  · replace hf := f_el hf hc
    refine Go.aload_n 0 10 rfl dX6_left_9 rfl ?_
    obtain ⟨k10, qk10, hk10, hf⟩ := f_rfd hf
    refine Go.getR 13 rfl dX6_left_10 fl_X6_11 rfl (isT_lt ha0) (isT_sh ha0) qk10 ?_
    refine Go.iload_n 1 14 rfl dX6_left_13 rfl ?_
    obtain ⟨g14, hf⟩ := f_grd hf
    obtain ⟨k14, qk14, hk14, hf⟩ := f_rfd hf
    refine Go.aaldR 15 rfl dX6_left_14 (isT_lt hk10) (isT_sh hk10) g14 qk14 ?_
    refine Go.astore_n 16 [(2, .ref k14), (0, .ref a0), (1, .int a1)] rfl dX6_left_15 (by decide) rfl ?_
    refine Go.aload_n 0 17 rfl dX6_left_16 rfl ?_
    obtain ⟨r17, er17, hf⟩ := f_bnd hf
    refine Go.cV 20 [] [] (C_X4_isThere G l n S k14 r17 hk14 er17) rfl dX6_left_17 cv_X6_82 hk14 (by decide) (by decide) rfl (Nat.le_of_ble_eq_true rfl) ?_
    refine Go.if_ne 29 23 rfl dX6_left_20 rfl (fun hc => ?_) (fun hc => ?_)
    · replace hf := f_el hf hc
      refine Go.aload_n 0 30 rfl dX6_left_29 rfl ?_
      refine Go.getI 33 rfl dX6_left_30 fl_X6_92 rfl (isT_lt hk14) (isT_sh hk14) ?_
      refine Go.iconst (2 : Int32) 34 rfl dX6_left_33 ci_2 ?_
      refine Go.irem 35 rfl dX6_left_34 (by decide) ?_
      refine Go.if_eq 44 38 rfl dX6_left_35 rfl (fun hc => ?_) (fun hc => ?_)
      · replace hf := f_if hf hc
        refine Go.iconst (0 : Int32) 45 rfl dX6_left_44 ci_0 ?_
        refine Go.istore_n 46 [(3, .int (0 : Int32)), (2, .ref k14), (0, .ref a0), (1, .int a1)] rfl dX6_left_45 (by decide) rfl ?_
        obtain ⟨K107, eK107, hf⟩ := f_jn hf
        have J107 : ∀ (x107S : aSt), K107 x107S = some (r, Sr) → GoM G l 5 (TmR G (some (.int r)) 97 Sr 0 0) mX6_left 107 [(0, .ref a0), (2, .ref k14)] [] x107S := by
          intro x107S hf
          rw [eK107] at hf
          refine Go.aload_n 0 108 rfl dX6_left_107 rfl ?_
          obtain ⟨k108, qk108, hk108, hf⟩ := f_rfd hf
          refine Go.getR 111 rfl dX6_left_108 fl_X6_45 rfl (isT_lt ha0) (isT_sh ha0) qk108 ?_
          obtain ⟨r111, er111, hf⟩ := f_bnd hf
          refine Go.cV 114 [] [] (C_X1_allCards G l n x107S k108 r111 hk108 er111) rfl dX6_left_111 cv_X6_247 hk108 (by decide) (by decide) rfl (Nat.le_of_ble_eq_true rfl) ?_
          refine Go.istore_n 115 [(3, .int r111), (0, .ref a0), (2, .ref k14)] rfl dX6_left_114 (by decide) rfl ?_
          refine Go.iconst (0 : Int32) 116 rfl dX6_left_115 ci_0 ?_
          refine Go.istore 118 [(4, .int (0 : Int32)), (3, .int r111), (0, .ref a0), (2, .ref k14)] rfl dX6_left_116 (by decide) rfl ?_
          obtain ⟨K176, eK176, hf⟩ := f_jn hf
          have J176 : ∀ (x176_3 : Int32), K176 x176_3 = some (r, Sr) → GoM G l 5 (TmR G (some (.int r)) 97 Sr 0 0) mX6_left 176 [(3, .int x176_3)] [] x107S := by
            intro x176_3 hf
            rw [eK176] at hf
            refine Go.iload_n 0 177 rfl dX6_left_176 rfl ?_
            exact Go.irS rfl dX6_left_177 hf
          clear eK176
          have L118 : ∀ (fu : Nat) (l118_3 : Int32) (l118_4 : Int32), F_X6_left_L118 n k14 x107S k108 K176 fu l118_3 l118_4 = some (r, Sr) → GoM G l 5 (TmR G (some (.int r)) 97 Sr 0 0) mX6_left 118 [(0, .ref a0), (2, .ref k14), (3, .int l118_3), (4, .int l118_4)] [] x107S := by
            intro fu
            induction fu with
            | zero => intro l118_3 l118_4 hf; rw [F_X6_left_L118] at hf; cases hf
            | succ fu ih =>
              intro l118_3 l118_4 hf
              rw [F_X6_left_L118] at hf
              refine Go.iload 3 120 rfl dX6_left_118 rfl ?_
              refine Go.iconst (1 : Int32) 121 rfl dX6_left_120 ci_1 ?_
              refine Go.iadd 122 rfl dX6_left_121 ?_
              refine Go.aload_n 1 123 rfl dX6_left_122 rfl ?_
              refine Go.getI 126 rfl dX6_left_123 fl_X6_92 rfl (isT_lt hk14) (isT_sh hk14) ?_
              refine Go.icmp_ge 176 129 rfl dX6_left_126 rfl (fun hc => ?_) (fun hc => ?_)
              · replace hf := f_if hf hc
                exact Go.sub [2] [(3, .int l118_3)] rfl (J176 l118_3 hf)
              · replace hf := f_el hf hc
                refine Go.aload_n 0 130 rfl dX6_left_129 rfl ?_
                refine Go.getR 133 rfl dX6_left_130 fl_X6_45 rfl (isT_lt ha0) (isT_sh ha0) qk108 ?_
                refine Go.aload_n 1 134 rfl dX6_left_133 rfl ?_
                obtain ⟨k134, qk134, hk134, hf⟩ := f_rfd hf
                refine Go.getR 137 rfl dX6_left_134 fl_X6_89 rfl (isT_lt hk14) (isT_sh hk14) qk134 ?_
                refine Go.iload 3 139 rfl dX6_left_137 rfl ?_
                obtain ⟨g139, hf⟩ := f_grd hf
                refine Go.iald 140 rfl dX6_left_139 (isT_lt hk134) (isT_sh hk134) g139 ?_
                obtain ⟨r140, er140, hf⟩ := f_bnd hf
                refine Go.cV 143 [.int (x107S.1 k134 l118_4.toNatClampNeg)] [] (C_X1_fittingCards G l n x107S k108 (x107S.1 k134 l118_4.toNatClampNeg) r140 hk108 er140) rfl dX6_left_140 cv_X6_155 hk108 (by decide) (by decide) rfl (Nat.le_of_ble_eq_true rfl) ?_
                refine Go.istore 145 [(5, .int r140), (0, .ref a0), (2, .ref k14), (3, .int l118_3), (4, .int l118_4)] rfl dX6_left_143 (by decide) rfl ?_
                refine Go.iload_n 3 146 rfl dX6_left_145 rfl ?_
                refine Go.aload_n 2 147 rfl dX6_left_146 rfl ?_
                refine Go.getR 150 rfl dX6_left_147 fl_X6_89 rfl (isT_lt hk14) (isT_sh hk14) qk134 ?_
                refine Go.iload 4 152 rfl dX6_left_150 rfl ?_
                refine Go.iconst (1 : Int32) 153 rfl dX6_left_152 ci_1 ?_
                refine Go.iadd 154 rfl dX6_left_153 ?_
                obtain ⟨g154, hf⟩ := f_grd hf
                refine Go.iald 155 rfl dX6_left_154 (isT_lt hk134) (isT_sh hk134) g154 ?_
                refine Go.iconst (1 : Int32) 156 rfl dX6_left_155 ci_1 ?_
                obtain ⟨K168, eK168, hf⟩ := f_jn hf
                have J168 : ∀ (j168s1 : Int32), K168 j168s1 = some (r, Sr) → GoM G l 5 (TmR G (some (.int r)) 97 Sr 0 0) mX6_left 168 [(0, .ref a0), (2, .ref k14), (4, .int l118_4)] [.int j168s1, .int l118_3] x107S := by
                  intro j168s1 hf
                  rw [eK168] at hf
                  refine Go.iand 169 rfl dX6_left_168 ?_
                  obtain ⟨v169, ev169, hf⟩ := f_nm hf
                  refine Go.topi v169 ev169 ?_
                  refine Go.istore_n 170 [(3, .int v169), (0, .ref a0), (2, .ref k14), (4, .int l118_4)] rfl dX6_left_169 (by decide) rfl ?_
                  refine Go.inc 3 173 (2 : Int32) [(4, .int (l118_4 + (2 : Int32))), (3, .int v169), (0, .ref a0), (2, .ref k14)] rfl dX6_left_170 rfl ci_2 (by decide) rfl ?_
                  refine Go.goto 118 dX6_left_173 rfl ?_
                  exact Go.sub [2, 3, 1, 0] [(0, .ref a0), (2, .ref k14), (3, .int v169), (4, .int (l118_4 + (2 : Int32)))] rfl (ih v169 (l118_4 + (2 : Int32)) hf)
                clear eK168
                refine Go.icmp_ne 164 159 rfl dX6_left_156 rfl (fun hc => ?_) (fun hc => ?_)
                · replace hf := f_el hf hc
                  refine Go.iload 0 166 rfl dX6_left_164 rfl ?_
                  refine Go.iconst (-1 : Int32) 167 rfl dX6_left_166 ci_m1 ?_
                  refine Go.ixor 168 rfl dX6_left_167 ?_
                  exact Go.sub [1, 2, 4] [(0, .ref a0), (2, .ref k14), (4, .int l118_4)] rfl (J168 (r140 ^^^ (-1 : Int32)) hf)
                · replace hf := f_if hf hc
                  refine Go.iload 0 161 rfl dX6_left_159 rfl ?_
                  refine Go.goto 168 dX6_left_161 rfl ?_
                  exact Go.sub [1, 2, 4] [(0, .ref a0), (2, .ref k14), (4, .int l118_4)] rfl (J168 r140 hf)
          exact Go.sub [2, 3, 1, 0] [(0, .ref a0), (2, .ref k14), (3, .int r111), (4, .int (0 : Int32))] rfl (L118 n r111 (0 : Int32) hf)
        clear eK107
        have L46 : ∀ (fu : Nat) (l46_3 : Int32) (l46S : aSt), F_X6_left_L46 n a0 k14 K107 fu l46_3 l46S = some (r, Sr) → GoM G l 5 (TmR G (some (.int r)) 97 Sr 0 0) mX6_left 46 [(0, .ref a0), (2, .ref k14), (3, .int l46_3)] [] l46S := by
          intro fu
          induction fu with
          | zero => intro l46_3 l46S hf; rw [F_X6_left_L46] at hf; cases hf
          | succ fu ih =>
            intro l46_3 l46S hf
            rw [F_X6_left_L46] at hf
            refine Go.iload_n 2 47 rfl dX6_left_46 rfl ?_
            refine Go.iconst (1 : Int32) 48 rfl dX6_left_47 ci_1 ?_
            refine Go.iadd 49 rfl dX6_left_48 ?_
            refine Go.aload_n 1 50 rfl dX6_left_49 rfl ?_
            refine Go.getI 53 rfl dX6_left_50 fl_X6_92 rfl (isT_lt hk14) (isT_sh hk14) ?_
            refine Go.icmp_ge 107 56 rfl dX6_left_53 rfl (fun hc => ?_) (fun hc => ?_)
            · replace hf := f_if hf hc
              exact Go.sub [0, 1] [(0, .ref a0), (2, .ref k14)] rfl (J107 l46S hf)
            · replace hf := f_el hf hc
              refine Go.aload_n 0 57 rfl dX6_left_56 rfl ?_
              obtain ⟨k57, qk57, hk57, hf⟩ := f_rfd hf
              refine Go.getR 60 rfl dX6_left_57 fl_X6_45 rfl (isT_lt ha0) (isT_sh ha0) qk57 ?_
              refine Go.aload_n 1 61 rfl dX6_left_60 rfl ?_
              obtain ⟨k61, qk61, hk61, hf⟩ := f_rfd hf
              refine Go.getR 64 rfl dX6_left_61 fl_X6_89 rfl (isT_lt hk14) (isT_sh hk14) qk61 ?_
              refine Go.iload_n 2 65 rfl dX6_left_64 rfl ?_
              obtain ⟨g65, hf⟩ := f_grd hf
              refine Go.iald 66 rfl dX6_left_65 (isT_lt hk61) (isT_sh hk61) g65 ?_
              obtain ⟨r66, er66, hf⟩ := f_bnd hf
              refine Go.cV 69 [.int (l46S.1 k61 l46_3.toNatClampNeg)] [] (C_X1_isQuestion G l n l46S k57 (l46S.1 k61 l46_3.toNatClampNeg) r66 hk57 er66) rfl dX6_left_66 cv_X6_125 hk57 (by decide) (by decide) rfl (Nat.le_of_ble_eq_true rfl) ?_
              obtain ⟨K95, eK95, hf⟩ := f_jn hf
              have J95 : K95 = some (r, Sr) → GoM G l 5 (TmR G (some (.int r)) 97 Sr 0 0) mX6_left 95 [(0, .ref a0)] [] l46S := by
                intro hf
                rw [eK95] at hf
                refine Go.aload_n 0 96 rfl dX6_left_95 rfl ?_
                refine Go.iconst (3 : Int32) 97 rfl dX6_left_96 ci_3 ?_
                obtain ⟨r97, S97, er97, hf⟩ := f_bn2 hf
                refine Go.cV 100 [.int (3 : Int32)] [] (C_X6_found G l n l46S a0 (3 : Int32) r97 S97 ha0 er97) rfl dX6_left_97 cv_X6_74 ha0 (by decide) (by decide) rfl (Nat.le_of_ble_eq_true rfl) ?_
                exact Go.irS rfl dX6_left_100 hf
              clear eK95
              refine Go.if_eq 95 72 rfl dX6_left_69 rfl (fun hc => ?_) (fun hc => ?_)
              · replace hf := f_if hf hc
                exact Go.sub [0] [(0, .ref a0)] rfl (J95 hf)
              · replace hf := f_el hf hc
                refine Go.aload_n 1 73 rfl dX6_left_72 rfl ?_
                refine Go.getR 76 rfl dX6_left_73 fl_X6_89 rfl (isT_lt hk14) (isT_sh hk14) qk61 ?_
                refine Go.iload_n 2 77 rfl dX6_left_76 rfl ?_
                refine Go.iconst (1 : Int32) 78 rfl dX6_left_77 ci_1 ?_
                refine Go.iadd 79 rfl dX6_left_78 ?_
                obtain ⟨g79, hf⟩ := f_grd hf
                refine Go.iald 80 rfl dX6_left_79 (isT_lt hk61) (isT_sh hk61) g79 ?_
                obtain ⟨K101, eK101, hf⟩ := f_jn hf
                have J101 : K101 = some (r, Sr) → GoM G l 5 (TmR G (some (.int r)) 97 Sr 0 0) mX6_left 101 [(0, .ref a0), (2, .ref k14), (3, .int l46_3)] [] l46S := by
                  intro hf
                  rw [eK101] at hf
                  refine Go.inc 2 104 (2 : Int32) [(3, .int (l46_3 + (2 : Int32))), (0, .ref a0), (2, .ref k14)] rfl dX6_left_101 rfl ci_2 (by decide) rfl ?_
                  refine Go.goto 46 dX6_left_104 rfl ?_
                  exact Go.sub [1, 2, 0] [(0, .ref a0), (2, .ref k14), (3, .int (l46_3 + (2 : Int32)))] rfl (ih (l46_3 + (2 : Int32)) l46S hf)
                clear eK101
                refine Go.if_eq 101 83 rfl dX6_left_80 rfl (fun hc => ?_) (fun hc => ?_)
                · replace hf := f_if hf hc
                  exact J101 hf
                · replace hf := f_el hf hc
                  refine Go.aload_n 1 84 rfl dX6_left_83 rfl ?_
                  refine Go.getR 87 rfl dX6_left_84 fl_X6_89 rfl (isT_lt hk14) (isT_sh hk14) qk61 ?_
                  refine Go.iload_n 2 88 rfl dX6_left_87 rfl ?_
                  refine Go.iconst (1 : Int32) 89 rfl dX6_left_88 ci_1 ?_
                  refine Go.iadd 90 rfl dX6_left_89 ?_
                  obtain ⟨g90, hf⟩ := f_grd hf
                  refine Go.iald 91 rfl dX6_left_90 (isT_lt hk61) (isT_sh hk61) g90 ?_
                  refine Go.iconst (1 : Int32) 92 rfl dX6_left_91 ci_1 ?_
                  refine Go.icmp_eq 101 95 rfl dX6_left_92 rfl (fun hc => ?_) (fun hc => ?_)
                  · replace hf := f_if hf hc
                    exact J101 hf
                  · replace hf := f_el hf hc
                    exact Go.sub [0] [(0, .ref a0)] rfl (J95 hf)
        exact Go.sub [2, 1, 0] [(0, .ref a0), (2, .ref k14), (3, .int (0 : Int32))] rfl (L46 n (0 : Int32) S hf)
      · replace hf := f_el hf hc
        refine Go.aload_n 1 39 rfl dX6_left_38 rfl ?_
        refine Go.iconst (5 : Int32) 40 rfl dX6_left_39 ci_5 ?_
        obtain ⟨r40, S40, er40, hf⟩ := f_bn2 hf
        refine Go.cV 43 [.int (5 : Int32)] [] (C_X6_found G l n S a0 (5 : Int32) r40 S40 ha0 er40) rfl dX6_left_40 cv_X6_74 ha0 (by decide) (by decide) rfl (Nat.le_of_ble_eq_true rfl) ?_
        exact Go.irS rfl dX6_left_43 hf
    · replace hf := f_if hf hc
      refine Go.aload_n 1 24 rfl dX6_left_23 rfl ?_
      refine Go.iconst (1 : Int32) 25 rfl dX6_left_24 ci_1 ?_
      obtain ⟨r25, S25, er25, hf⟩ := f_bn2 hf
      refine Go.cV 28 [.int (1 : Int32)] [] (C_X6_found G l n S a0 (1 : Int32) r25 S25 ha0 er25) rfl dX6_left_25 cv_X6_74 ha0 (by decide) (by decide) rfl (Nat.le_of_ble_eq_true rfl) ?_
      exact Go.irS rfl dX6_left_28 hf
  · replace hf := f_if hf hc
    refine Go.iconst (-1 : Int32) 8 rfl dX6_left_7 ci_m1 ?_
    exact Go.irS rfl dX6_left_8 hf
theorem dX6_forged_0 : decode cX6_forged 0 = .ok (.bipush (-9), 2) := by decide +kernel
theorem dX6_forged_2 : decode cX6_forged 2 = .ok (.istore_n 1, 1) := by decide +kernel
theorem dX6_forged_3 : decode cX6_forged 3 = .ok (.iconst (-1), 1) := by decide +kernel
theorem dX6_forged_4 : decode cX6_forged 4 = .ok (.istore_n 2, 1) := by decide +kernel
theorem dX6_forged_5 : decode cX6_forged 5 = .ok (.iconst 0, 1) := by decide +kernel
theorem dX6_forged_6 : decode cX6_forged 6 = .ok (.istore_n 3, 1) := by decide +kernel
theorem dX6_forged_7 : decode cX6_forged 7 = .ok (.iload_n 3, 1) := by decide +kernel
theorem dX6_forged_8 : decode cX6_forged 8 = .ok (.aload_n 0, 1) := by decide +kernel
theorem dX6_forged_9 : decode cX6_forged 9 = .ok (.getfield 45, 3) := by decide +kernel
theorem dX6_forged_12 : decode cX6_forged 12 = .ok (.getfield 115, 3) := by decide +kernel
theorem dX6_forged_15 : decode cX6_forged 15 = .ok (.if_icmp .ge 30, 3) := by decide +kernel
theorem dX6_forged_18 : decode cX6_forged 18 = .ok (.aload_n 0, 1) := by decide +kernel
theorem dX6_forged_19 : decode cX6_forged 19 = .ok (.getfield 45, 3) := by decide +kernel
theorem dX6_forged_22 : decode cX6_forged 22 = .ok (.iload_n 3, 1) := by decide +kernel
theorem dX6_forged_23 : decode cX6_forged 23 = .ok (.invokevirtual 251, 3) := by decide +kernel
theorem dX6_forged_26 : decode cX6_forged 26 = .ok (.istore 4, 2) := by decide +kernel
theorem dX6_forged_28 : decode cX6_forged 28 = .ok (.iload 4, 2) := by decide +kernel
theorem dX6_forged_30 : decode cX6_forged 30 = .ok (.iload_n 2, 1) := by decide +kernel
theorem dX6_forged_31 : decode cX6_forged 31 = .ok (.if_icmp .le 8, 3) := by decide +kernel
theorem dX6_forged_34 : decode cX6_forged 34 = .ok (.iload 4, 2) := by decide +kernel
theorem dX6_forged_36 : decode cX6_forged 36 = .ok (.istore_n 2, 1) := by decide +kernel
theorem dX6_forged_37 : decode cX6_forged 37 = .ok (.iload_n 3, 1) := by decide +kernel
theorem dX6_forged_38 : decode cX6_forged 38 = .ok (.istore_n 1, 1) := by decide +kernel
theorem dX6_forged_39 : decode cX6_forged 39 = .ok (.iinc 3 1, 3) := by decide +kernel
theorem dX6_forged_42 : decode cX6_forged 42 = .ok (.goto (-35), 3) := by decide +kernel
theorem dX6_forged_45 : decode cX6_forged 45 = .ok (.iload_n 1, 1) := by decide +kernel
theorem dX6_forged_46 : decode cX6_forged 46 = .ok (.bipush (-9), 2) := by decide +kernel
theorem dX6_forged_48 : decode cX6_forged 48 = .ok (.if_icmp .eq 8, 3) := by decide +kernel
theorem dX6_forged_51 : decode cX6_forged 51 = .ok (.aload_n 0, 1) := by decide +kernel
theorem dX6_forged_52 : decode cX6_forged 52 = .ok (.iload_n 2, 1) := by decide +kernel
theorem dX6_forged_53 : decode cX6_forged 53 = .ok (.putfield 52, 3) := by decide +kernel
theorem dX6_forged_56 : decode cX6_forged 56 = .ok (.iload_n 1, 1) := by decide +kernel
theorem dX6_forged_57 : decode cX6_forged 57 = .ok (.ireturn, 1) := by decide +kernel
def F_X6_forged_L7 (n : Nat) (S : aSt) (a0 : Nat) (K45 : Int32 → Int32 → Option (Int32 × aSt)) : Nat → Int32 → Int32 → Int32 → Option (Int32 × aSt)
  | 0, _, _, _ => none
  | fu + 1, l7_1, l7_2, l7_3 =>
    rfd (S.2.2 a0 6) 0 fun k9 =>
    if (S.1 k9 7) ≤ l7_3 then (K45 l7_1 l7_2) else
    (F_X1_questionsFitted n S k9 l7_3).bind fun r23 =>
    jn (fun (j39_1 : Int32) (j39_2 : Int32) => (F_X6_forged_L7 n S a0 K45 fu j39_1 j39_2 (l7_3 + (1 : Int32)) : Option (Int32 × aSt))) fun K39 =>
    if r23 ≤ l7_2 then (K39 l7_1 l7_2) else
    K39 l7_3 r23
def F_X6_forged (n : Nat) (S : aSt) (a0 : Nat) : Option (Int32 × aSt) :=
jn (fun (x45_1 : Int32) (x45_2 : Int32) => (jn (fun (j56S : aSt) => (some (x45_1, j56S) : Option (Int32 × aSt))) fun K56 =>
if x45_1 = (-9 : Int32) then (K56 S) else
nm (stI S a0 8 x45_2) fun S53 =>
K56 S53 : Option (Int32 × aSt))) fun K45 =>
F_X6_forged_L7 n S a0 K45 n (-9 : Int32) (-1 : Int32) (0 : Int32)
set_option maxHeartbeats 4000000 in
set_option maxRecDepth 100000 in
theorem C_X6_forged (G : aG) (l : Launch) (n : Nat) (S : aSt) (a0 : Nat) (r : Int32) (Sr : aSt) (ha0 : isT a0 5 = true) (hf : F_X6_forged n S a0 = some (r, Sr)) : Ctr G l yX6_forged mX6_forged (rmM 5) 97 97 S [.ref a0] (some (.int r)) Sr := by
  refine Ctr.of (by decide) rfl rfl (Nat.le_of_ble_eq_true rfl) [(0, .ref a0)] rfl ?_
  unfold F_X6_forged at hf
  refine Go.bipush (-9 : Int32) 2 rfl dX6_forged_0 cb_m9 ?_
  refine Go.istore_n 3 [(1, .int (-9 : Int32)), (0, .ref a0)] rfl dX6_forged_2 (by decide) rfl ?_
  refine Go.iconst (-1 : Int32) 4 rfl dX6_forged_3 ci_m1 ?_
  refine Go.istore_n 5 [(2, .int (-1 : Int32)), (1, .int (-9 : Int32)), (0, .ref a0)] rfl dX6_forged_4 (by decide) rfl ?_
  refine Go.iconst (0 : Int32) 6 rfl dX6_forged_5 ci_0 ?_
  refine Go.istore_n 7 [(3, .int (0 : Int32)), (2, .int (-1 : Int32)), (1, .int (-9 : Int32)), (0, .ref a0)] rfl dX6_forged_6 (by decide) rfl ?_
  obtain ⟨K45, eK45, hf⟩ := f_jn hf
  have J45 : ∀ (x45_1 : Int32) (x45_2 : Int32), K45 x45_1 x45_2 = some (r, Sr) → GoM G l 5 (TmR G (some (.int r)) 97 Sr 0 0) mX6_forged 45 [(0, .ref a0), (1, .int x45_1), (2, .int x45_2)] [] S := by
    intro x45_1 x45_2 hf
    rw [eK45] at hf
    refine Go.iload_n 1 46 rfl dX6_forged_45 rfl ?_
    refine Go.bipush (-9 : Int32) 48 rfl dX6_forged_46 cb_m9 ?_
    obtain ⟨K56, eK56, hf⟩ := f_jn hf
    have J56 : ∀ (j56S : aSt), K56 j56S = some (r, Sr) → GoM G l 5 (TmR G (some (.int r)) 97 Sr 0 0) mX6_forged 56 [(1, .int x45_1)] [] j56S := by
      intro j56S hf
      rw [eK56] at hf
      refine Go.iload_n 0 57 rfl dX6_forged_56 rfl ?_
      exact Go.irS rfl dX6_forged_57 hf
    clear eK56
    refine Go.icmp_eq 56 51 rfl dX6_forged_48 rfl (fun hc => ?_) (fun hc => ?_)
    · replace hf := f_if hf hc
      exact Go.sub [1] [(1, .int x45_1)] rfl (J56 S hf)
    · replace hf := f_el hf hc
      refine Go.aload_n 0 52 rfl dX6_forged_51 rfl ?_
      refine Go.iload_n 2 53 rfl dX6_forged_52 rfl ?_
      obtain ⟨S53, eS53, hf⟩ := f_nm hf
      refine Go.putI 56 rfl dX6_forged_53 fp_X6_52 rfl (isT_lt ha0) (isT_sh ha0) (fun h => by cases h) (Go.stt S53 eS53 ?_)
      exact Go.sub [1] [(1, .int x45_1)] rfl (J56 S53 hf)
  clear eK45
  have L7 : ∀ (fu : Nat) (l7_1 : Int32) (l7_2 : Int32) (l7_3 : Int32), F_X6_forged_L7 n S a0 K45 fu l7_1 l7_2 l7_3 = some (r, Sr) → GoM G l 5 (TmR G (some (.int r)) 97 Sr 0 0) mX6_forged 7 [(0, .ref a0), (1, .int l7_1), (2, .int l7_2), (3, .int l7_3)] [] S := by
    intro fu
    induction fu with
    | zero => intro l7_1 l7_2 l7_3 hf; rw [F_X6_forged_L7] at hf; cases hf
    | succ fu ih =>
      intro l7_1 l7_2 l7_3 hf
      rw [F_X6_forged_L7] at hf
      refine Go.iload_n 3 8 rfl dX6_forged_7 rfl ?_
      refine Go.aload_n 0 9 rfl dX6_forged_8 rfl ?_
      obtain ⟨k9, qk9, hk9, hf⟩ := f_rfd hf
      refine Go.getR 12 rfl dX6_forged_9 fl_X6_45 rfl (isT_lt ha0) (isT_sh ha0) qk9 ?_
      refine Go.getI 15 rfl dX6_forged_12 fl_X6_115 rfl (isT_lt hk9) (isT_sh hk9) ?_
      refine Go.icmp_ge 45 18 rfl dX6_forged_15 rfl (fun hc => ?_) (fun hc => ?_)
      · replace hf := f_if hf hc
        exact Go.sub [0, 1, 2] [(0, .ref a0), (1, .int l7_1), (2, .int l7_2)] rfl (J45 l7_1 l7_2 hf)
      · replace hf := f_el hf hc
        refine Go.aload_n 0 19 rfl dX6_forged_18 rfl ?_
        refine Go.getR 22 rfl dX6_forged_19 fl_X6_45 rfl (isT_lt ha0) (isT_sh ha0) qk9 ?_
        refine Go.iload_n 3 23 rfl dX6_forged_22 rfl ?_
        obtain ⟨r23, er23, hf⟩ := f_bnd hf
        refine Go.cV 26 [.int l7_3] [] (C_X1_questionsFitted G l n S k9 l7_3 r23 hk9 er23) rfl dX6_forged_23 cv_X6_251 hk9 (by decide) (by decide) rfl (Nat.le_of_ble_eq_true rfl) ?_
        refine Go.istore 28 [(4, .int r23), (0, .ref a0), (1, .int l7_1), (2, .int l7_2), (3, .int l7_3)] rfl dX6_forged_26 (by decide) rfl ?_
        refine Go.iload 0 30 rfl dX6_forged_28 rfl ?_
        refine Go.iload_n 3 31 rfl dX6_forged_30 rfl ?_
        obtain ⟨K39, eK39, hf⟩ := f_jn hf
        have J39 : ∀ (j39_1 : Int32) (j39_2 : Int32), K39 j39_1 j39_2 = some (r, Sr) → GoM G l 5 (TmR G (some (.int r)) 97 Sr 0 0) mX6_forged 39 [(0, .ref a0), (1, .int j39_1), (2, .int j39_2), (3, .int l7_3)] [] S := by
          intro j39_1 j39_2 hf
          rw [eK39] at hf
          refine Go.inc 3 42 (1 : Int32) [(3, .int (l7_3 + (1 : Int32))), (0, .ref a0), (1, .int j39_1), (2, .int j39_2)] rfl dX6_forged_39 rfl ci_1 (by decide) rfl ?_
          refine Go.goto 7 dX6_forged_42 rfl ?_
          exact Go.sub [1, 2, 3, 0] [(0, .ref a0), (1, .int j39_1), (2, .int j39_2), (3, .int (l7_3 + (1 : Int32)))] rfl (ih j39_1 j39_2 (l7_3 + (1 : Int32)) hf)
        clear eK39
        refine Go.icmp_le 39 34 rfl dX6_forged_31 rfl (fun hc => ?_) (fun hc => ?_)
        · replace hf := f_if hf hc
          exact Go.sub [1, 2, 3, 4] [(0, .ref a0), (1, .int l7_1), (2, .int l7_2), (3, .int l7_3)] rfl (J39 l7_1 l7_2 hf)
        · replace hf := f_el hf hc
          refine Go.iload 0 36 rfl dX6_forged_34 rfl ?_
          refine Go.istore_n 37 [(2, .int r23), (4, .int r23), (0, .ref a0), (1, .int l7_1), (3, .int l7_3)] rfl dX6_forged_36 (by decide) rfl ?_
          refine Go.iload_n 4 38 rfl dX6_forged_37 rfl ?_
          refine Go.istore_n 39 [(1, .int l7_3), (2, .int r23), (4, .int r23), (0, .ref a0), (3, .int l7_3)] rfl dX6_forged_38 (by decide) rfl ?_
          exact Go.sub [3, 0, 1, 4] [(0, .ref a0), (1, .int l7_3), (2, .int r23), (3, .int l7_3)] rfl (J39 l7_3 r23 hf)
  exact Go.sub [3, 2, 1, 0] [(0, .ref a0), (1, .int (-9 : Int32)), (2, .int (-1 : Int32)), (3, .int (0 : Int32))] rfl (L7 n (-9 : Int32) (-1 : Int32) (0 : Int32) hf)
theorem dX6_beside_0 : decode cX6_beside 0 = .ok (.iload_n 1, 1) := by decide +kernel
theorem dX6_beside_1 : decode cX6_beside 1 = .ok (.invokestatic 70, 3) := by decide +kernel
theorem dX6_beside_4 : decode cX6_beside 4 = .ok (.ifCond .ne 5, 3) := by decide +kernel
theorem dX6_beside_7 : decode cX6_beside 7 = .ok (.iconst (-1), 1) := by decide +kernel
theorem dX6_beside_8 : decode cX6_beside 8 = .ok (.ireturn, 1) := by decide +kernel
theorem dX6_beside_9 : decode cX6_beside 9 = .ok (.aload_n 0, 1) := by decide +kernel
theorem dX6_beside_10 : decode cX6_beside 10 = .ok (.getfield 11, 3) := by decide +kernel
theorem dX6_beside_13 : decode cX6_beside 13 = .ok (.iload_n 1, 1) := by decide +kernel
theorem dX6_beside_14 : decode cX6_beside 14 = .ok (.aaload, 1) := by decide +kernel
theorem dX6_beside_15 : decode cX6_beside 15 = .ok (.astore_n 2, 1) := by decide +kernel
theorem dX6_beside_16 : decode cX6_beside 16 = .ok (.aload_n 2, 1) := by decide +kernel
theorem dX6_beside_17 : decode cX6_beside 17 = .ok (.invokevirtual 82, 3) := by decide +kernel
theorem dX6_beside_20 : decode cX6_beside 20 = .ok (.ifCond .ne 9, 3) := by decide +kernel
theorem dX6_beside_23 : decode cX6_beside 23 = .ok (.aload_n 0, 1) := by decide +kernel
theorem dX6_beside_24 : decode cX6_beside 24 = .ok (.iconst 1, 1) := by decide +kernel
theorem dX6_beside_25 : decode cX6_beside 25 = .ok (.invokevirtual 74, 3) := by decide +kernel
theorem dX6_beside_28 : decode cX6_beside 28 = .ok (.ireturn, 1) := by decide +kernel
theorem dX6_beside_29 : decode cX6_beside 29 = .ok (.aload_n 2, 1) := by decide +kernel
theorem dX6_beside_30 : decode cX6_beside 30 = .ok (.getfield 92, 3) := by decide +kernel
theorem dX6_beside_33 : decode cX6_beside 33 = .ok (.bipush 7, 2) := by decide +kernel
theorem dX6_beside_35 : decode cX6_beside 35 = .ok (.if_icmp .le 9, 3) := by decide +kernel
theorem dX6_beside_38 : decode cX6_beside 38 = .ok (.aload_n 0, 1) := by decide +kernel
theorem dX6_beside_39 : decode cX6_beside 39 = .ok (.iconst 5, 1) := by decide +kernel
theorem dX6_beside_40 : decode cX6_beside 40 = .ok (.invokevirtual 74, 3) := by decide +kernel
theorem dX6_beside_43 : decode cX6_beside 43 = .ok (.ireturn, 1) := by decide +kernel
theorem dX6_beside_44 : decode cX6_beside 44 = .ok (.iconst 0, 1) := by decide +kernel
theorem dX6_beside_45 : decode cX6_beside 45 = .ok (.istore_n 3, 1) := by decide +kernel
theorem dX6_beside_46 : decode cX6_beside 46 = .ok (.iload_n 3, 1) := by decide +kernel
theorem dX6_beside_47 : decode cX6_beside 47 = .ok (.aload_n 2, 1) := by decide +kernel
theorem dX6_beside_48 : decode cX6_beside 48 = .ok (.getfield 92, 3) := by decide +kernel
theorem dX6_beside_51 : decode cX6_beside 51 = .ok (.if_icmp .ge 35, 3) := by decide +kernel
theorem dX6_beside_54 : decode cX6_beside 54 = .ok (.aload_n 2, 1) := by decide +kernel
theorem dX6_beside_55 : decode cX6_beside 55 = .ok (.getfield 89, 3) := by decide +kernel
theorem dX6_beside_58 : decode cX6_beside 58 = .ok (.iload_n 3, 1) := by decide +kernel
theorem dX6_beside_59 : decode cX6_beside 59 = .ok (.iaload, 1) := by decide +kernel
theorem dX6_beside_60 : decode cX6_beside 60 = .ok (.ifCond .lt 14, 3) := by decide +kernel
theorem dX6_beside_63 : decode cX6_beside 63 = .ok (.aload_n 2, 1) := by decide +kernel
theorem dX6_beside_64 : decode cX6_beside 64 = .ok (.getfield 89, 3) := by decide +kernel
theorem dX6_beside_67 : decode cX6_beside 67 = .ok (.iload_n 3, 1) := by decide +kernel
theorem dX6_beside_68 : decode cX6_beside 68 = .ok (.iaload, 1) := by decide +kernel
theorem dX6_beside_69 : decode cX6_beside 69 = .ok (.bipush 60, 2) := by decide +kernel
theorem dX6_beside_71 : decode cX6_beside 71 = .ok (.if_icmp .lt 9, 3) := by decide +kernel
theorem dX6_beside_74 : decode cX6_beside 74 = .ok (.aload_n 0, 1) := by decide +kernel
theorem dX6_beside_75 : decode cX6_beside 75 = .ok (.iconst 3, 1) := by decide +kernel
theorem dX6_beside_76 : decode cX6_beside 76 = .ok (.invokevirtual 74, 3) := by decide +kernel
theorem dX6_beside_79 : decode cX6_beside 79 = .ok (.ireturn, 1) := by decide +kernel
theorem dX6_beside_80 : decode cX6_beside 80 = .ok (.iinc 3 1, 3) := by decide +kernel
theorem dX6_beside_83 : decode cX6_beside 83 = .ok (.goto (-37), 3) := by decide +kernel
theorem dX6_beside_86 : decode cX6_beside 86 = .ok (.aload_n 0, 1) := by decide +kernel
theorem dX6_beside_87 : decode cX6_beside 87 = .ok (.getfield 45, 3) := by decide +kernel
theorem dX6_beside_90 : decode cX6_beside 90 = .ok (.aload_n 2, 1) := by decide +kernel
theorem dX6_beside_91 : decode cX6_beside 91 = .ok (.iconst 1, 1) := by decide +kernel
theorem dX6_beside_92 : decode cX6_beside 92 = .ok (.invokevirtual 254, 3) := by decide +kernel
theorem dX6_beside_95 : decode cX6_beside 95 = .ok (.istore_n 3, 1) := by decide +kernel
theorem dX6_beside_96 : decode cX6_beside 96 = .ok (.aload_n 0, 1) := by decide +kernel
theorem dX6_beside_97 : decode cX6_beside 97 = .ok (.aload_n 0, 1) := by decide +kernel
theorem dX6_beside_98 : decode cX6_beside 98 = .ok (.getfield 45, 3) := by decide +kernel
theorem dX6_beside_101 : decode cX6_beside 101 = .ok (.aload_n 2, 1) := by decide +kernel
theorem dX6_beside_102 : decode cX6_beside 102 = .ok (.iconst 0, 1) := by decide +kernel
theorem dX6_beside_103 : decode cX6_beside 103 = .ok (.invokevirtual 254, 3) := by decide +kernel
theorem dX6_beside_106 : decode cX6_beside 106 = .ok (.iload_n 3, 1) := by decide +kernel
theorem dX6_beside_107 : decode cX6_beside 107 = .ok (.isub, 1) := by decide +kernel
theorem dX6_beside_108 : decode cX6_beside 108 = .ok (.putfield 52, 3) := by decide +kernel
theorem dX6_beside_111 : decode cX6_beside 111 = .ok (.iload_n 3, 1) := by decide +kernel
theorem dX6_beside_112 : decode cX6_beside 112 = .ok (.ireturn, 1) := by decide +kernel
def F_X6_beside_L46 (n : Nat) (a0 : Nat) (k14 : Nat) (K86 : aSt → Option (Int32 × aSt)) : Nat → Int32 → aSt → Option (Int32 × aSt)
  | 0, _, _ => none
  | fu + 1, l46_3, l46S =>
    if (l46S.1 k14 1) ≤ l46_3 then (K86 l46S) else
    rfd (l46S.2.2 k14 0) 7 fun k55 =>
    grd (inb l46_3 (SH k55).2) <|
    jn ((bn2 (F_X6_found n l46S a0 (3 : Int32)) fun r76 S76 =>
    some (r76, S76) : Option (Int32 × aSt))) fun K74 =>
    if (l46S.1 k55 l46_3.toNatClampNeg) < 0 then (K74) else
    grd (inb l46_3 (SH k55).2) <|
    if (l46S.1 k55 l46_3.toNatClampNeg) < (60 : Int32) then (F_X6_beside_L46 n a0 k14 K86 fu (l46_3 + (1 : Int32)) l46S) else
    K74
def F_X6_beside (n : Nat) (S : aSt) (a0 : Nat) (a1 : Int32) : Option (Int32 × aSt) :=
(F_X6_isRow n S a1).bind fun r1 =>
if r1 = 0 then (some ((-1 : Int32), S)) else
rfd (S.2.2 a0 0) 9 fun k10 =>
grd (inb a1 (SH k10).2) <|
rfd (S.2.2 k10 a1.toNatClampNeg) 3 fun k14 =>
(F_X4_isThere n S k14).bind fun r17 =>
if r17 = 0 then (bn2 (F_X6_found n S a0 (1 : Int32)) fun r25 S25 =>
some (r25, S25)) else
if (S.1 k14 1) ≤ (7 : Int32) then (jn (fun (x86S : aSt) => (rfd (x86S.2.2 a0 6) 0 fun k87 =>
(F_X1_pairsWith n x86S k87 k14 (1 : Int32)).bind fun r92 =>
(F_X1_pairsWith n x86S k87 k14 (0 : Int32)).bind fun r103 =>
nm (stI x86S a0 8 (r103 - r92)) fun S108 =>
some (r92, S108) : Option (Int32 × aSt))) fun K86 =>
F_X6_beside_L46 n a0 k14 K86 n (0 : Int32) S) else
bn2 (F_X6_found n S a0 (5 : Int32)) fun r40 S40 =>
some (r40, S40)
set_option maxHeartbeats 4000000 in
set_option maxRecDepth 100000 in
theorem C_X6_beside (G : aG) (l : Launch) (n : Nat) (S : aSt) (a0 : Nat) (a1 : Int32) (r : Int32) (Sr : aSt) (ha0 : isT a0 5 = true) (hf : F_X6_beside n S a0 a1 = some (r, Sr)) : Ctr G l yX6_beside mX6_beside (rmM 5) 97 97 S [.ref a0, .int a1] (some (.int r)) Sr := by
  refine Ctr.of (by decide) rfl rfl (Nat.le_of_ble_eq_true rfl) [(0, .ref a0), (1, .int a1)] rfl ?_
  unfold F_X6_beside at hf
  refine Go.iload_n 1 1 rfl dX6_beside_0 rfl ?_
  obtain ⟨r1, er1, hf⟩ := f_bnd hf
  refine Go.cS 4 [.int a1] [] (C_X6_isRow G l n S a1 r1  er1) rfl dX6_beside_1 cx_X6_70 (by decide) (by decide) rfl (Nat.le_of_ble_eq_true rfl) ?_
  refine Go.if_ne 9 7 rfl dX6_beside_4 rfl (fun hc => ?_) (fun hc => ?_)
  · replace hf := f_el hf hc
    refine Go.aload_n 0 10 rfl dX6_beside_9 rfl ?_
    obtain ⟨k10, qk10, hk10, hf⟩ := f_rfd hf
    refine Go.getR 13 rfl dX6_beside_10 fl_X6_11 rfl (isT_lt ha0) (isT_sh ha0) qk10 ?_
    refine Go.iload_n 1 14 rfl dX6_beside_13 rfl ?_
    obtain ⟨g14, hf⟩ := f_grd hf
    obtain ⟨k14, qk14, hk14, hf⟩ := f_rfd hf
    refine Go.aaldR 15 rfl dX6_beside_14 (isT_lt hk10) (isT_sh hk10) g14 qk14 ?_
    refine Go.astore_n 16 [(2, .ref k14), (0, .ref a0), (1, .int a1)] rfl dX6_beside_15 (by decide) rfl ?_
    refine Go.aload_n 0 17 rfl dX6_beside_16 rfl ?_
    obtain ⟨r17, er17, hf⟩ := f_bnd hf
    refine Go.cV 20 [] [] (C_X4_isThere G l n S k14 r17 hk14 er17) rfl dX6_beside_17 cv_X6_82 hk14 (by decide) (by decide) rfl (Nat.le_of_ble_eq_true rfl) ?_
    refine Go.if_ne 29 23 rfl dX6_beside_20 rfl (fun hc => ?_) (fun hc => ?_)
    · replace hf := f_el hf hc
      refine Go.aload_n 0 30 rfl dX6_beside_29 rfl ?_
      refine Go.getI 33 rfl dX6_beside_30 fl_X6_92 rfl (isT_lt hk14) (isT_sh hk14) ?_
      refine Go.bipush (7 : Int32) 35 rfl dX6_beside_33 cb_7 ?_
      refine Go.icmp_le 44 38 rfl dX6_beside_35 rfl (fun hc => ?_) (fun hc => ?_)
      · replace hf := f_if hf hc
        refine Go.iconst (0 : Int32) 45 rfl dX6_beside_44 ci_0 ?_
        refine Go.istore_n 46 [(3, .int (0 : Int32)), (2, .ref k14), (0, .ref a0), (1, .int a1)] rfl dX6_beside_45 (by decide) rfl ?_
        obtain ⟨K86, eK86, hf⟩ := f_jn hf
        have J86 : ∀ (x86S : aSt), K86 x86S = some (r, Sr) → GoM G l 5 (TmR G (some (.int r)) 97 Sr 0 0) mX6_beside 86 [(0, .ref a0), (2, .ref k14)] [] x86S := by
          intro x86S hf
          rw [eK86] at hf
          refine Go.aload_n 0 87 rfl dX6_beside_86 rfl ?_
          obtain ⟨k87, qk87, hk87, hf⟩ := f_rfd hf
          refine Go.getR 90 rfl dX6_beside_87 fl_X6_45 rfl (isT_lt ha0) (isT_sh ha0) qk87 ?_
          refine Go.aload_n 1 91 rfl dX6_beside_90 rfl ?_
          refine Go.iconst (1 : Int32) 92 rfl dX6_beside_91 ci_1 ?_
          obtain ⟨r92, er92, hf⟩ := f_bnd hf
          refine Go.cV 95 [.ref k14, .int (1 : Int32)] [] (C_X1_pairsWith G l n x86S k87 k14 (1 : Int32) r92 hk87 hk14 er92) rfl dX6_beside_92 cv_X6_254 hk87 (by decide) (by decide) rfl (Nat.le_of_ble_eq_true rfl) ?_
          refine Go.istore_n 96 [(3, .int r92), (0, .ref a0), (2, .ref k14)] rfl dX6_beside_95 (by decide) rfl ?_
          refine Go.aload_n 1 97 rfl dX6_beside_96 rfl ?_
          refine Go.aload_n 1 98 rfl dX6_beside_97 rfl ?_
          refine Go.getR 101 rfl dX6_beside_98 fl_X6_45 rfl (isT_lt ha0) (isT_sh ha0) qk87 ?_
          refine Go.aload_n 2 102 rfl dX6_beside_101 rfl ?_
          refine Go.iconst (0 : Int32) 103 rfl dX6_beside_102 ci_0 ?_
          obtain ⟨r103, er103, hf⟩ := f_bnd hf
          refine Go.cV 106 [.ref k14, .int (0 : Int32)] [.ref a0] (C_X1_pairsWith G l n x86S k87 k14 (0 : Int32) r103 hk87 hk14 er103) rfl dX6_beside_103 cv_X6_254 hk87 (by decide) (by decide) rfl (Nat.le_of_ble_eq_true rfl) ?_
          refine Go.iload_n 0 107 rfl dX6_beside_106 rfl ?_
          refine Go.isub 108 rfl dX6_beside_107 ?_
          obtain ⟨S108, eS108, hf⟩ := f_nm hf
          refine Go.putI 111 rfl dX6_beside_108 fp_X6_52 rfl (isT_lt ha0) (isT_sh ha0) (fun h => by cases h) (Go.stt S108 eS108 ?_)
          refine Go.iload_n 0 112 rfl dX6_beside_111 rfl ?_
          exact Go.irS rfl dX6_beside_112 hf
        clear eK86
        have L46 : ∀ (fu : Nat) (l46_3 : Int32) (l46S : aSt), F_X6_beside_L46 n a0 k14 K86 fu l46_3 l46S = some (r, Sr) → GoM G l 5 (TmR G (some (.int r)) 97 Sr 0 0) mX6_beside 46 [(0, .ref a0), (2, .ref k14), (3, .int l46_3)] [] l46S := by
          intro fu
          induction fu with
          | zero => intro l46_3 l46S hf; rw [F_X6_beside_L46] at hf; cases hf
          | succ fu ih =>
            intro l46_3 l46S hf
            rw [F_X6_beside_L46] at hf
            refine Go.iload_n 2 47 rfl dX6_beside_46 rfl ?_
            refine Go.aload_n 1 48 rfl dX6_beside_47 rfl ?_
            refine Go.getI 51 rfl dX6_beside_48 fl_X6_92 rfl (isT_lt hk14) (isT_sh hk14) ?_
            refine Go.icmp_ge 86 54 rfl dX6_beside_51 rfl (fun hc => ?_) (fun hc => ?_)
            · replace hf := f_if hf hc
              exact Go.sub [0, 1] [(0, .ref a0), (2, .ref k14)] rfl (J86 l46S hf)
            · replace hf := f_el hf hc
              refine Go.aload_n 1 55 rfl dX6_beside_54 rfl ?_
              obtain ⟨k55, qk55, hk55, hf⟩ := f_rfd hf
              refine Go.getR 58 rfl dX6_beside_55 fl_X6_89 rfl (isT_lt hk14) (isT_sh hk14) qk55 ?_
              refine Go.iload_n 2 59 rfl dX6_beside_58 rfl ?_
              obtain ⟨g59, hf⟩ := f_grd hf
              refine Go.iald 60 rfl dX6_beside_59 (isT_lt hk55) (isT_sh hk55) g59 ?_
              obtain ⟨K74, eK74, hf⟩ := f_jn hf
              have J74 : K74 = some (r, Sr) → GoM G l 5 (TmR G (some (.int r)) 97 Sr 0 0) mX6_beside 74 [(0, .ref a0)] [] l46S := by
                intro hf
                rw [eK74] at hf
                refine Go.aload_n 0 75 rfl dX6_beside_74 rfl ?_
                refine Go.iconst (3 : Int32) 76 rfl dX6_beside_75 ci_3 ?_
                obtain ⟨r76, S76, er76, hf⟩ := f_bn2 hf
                refine Go.cV 79 [.int (3 : Int32)] [] (C_X6_found G l n l46S a0 (3 : Int32) r76 S76 ha0 er76) rfl dX6_beside_76 cv_X6_74 ha0 (by decide) (by decide) rfl (Nat.le_of_ble_eq_true rfl) ?_
                exact Go.irS rfl dX6_beside_79 hf
              clear eK74
              refine Go.if_lt 74 63 rfl dX6_beside_60 rfl (fun hc => ?_) (fun hc => ?_)
              · replace hf := f_if hf hc
                exact Go.sub [0] [(0, .ref a0)] rfl (J74 hf)
              · replace hf := f_el hf hc
                refine Go.aload_n 1 64 rfl dX6_beside_63 rfl ?_
                refine Go.getR 67 rfl dX6_beside_64 fl_X6_89 rfl (isT_lt hk14) (isT_sh hk14) qk55 ?_
                refine Go.iload_n 2 68 rfl dX6_beside_67 rfl ?_
                obtain ⟨g68, hf⟩ := f_grd hf
                refine Go.iald 69 rfl dX6_beside_68 (isT_lt hk55) (isT_sh hk55) g68 ?_
                refine Go.bipush (60 : Int32) 71 rfl dX6_beside_69 cb_60 ?_
                refine Go.icmp_lt 80 74 rfl dX6_beside_71 rfl (fun hc => ?_) (fun hc => ?_)
                · replace hf := f_if hf hc
                  refine Go.inc 2 83 (1 : Int32) [(3, .int (l46_3 + (1 : Int32))), (0, .ref a0), (2, .ref k14)] rfl dX6_beside_80 rfl ci_1 (by decide) rfl ?_
                  refine Go.goto 46 dX6_beside_83 rfl ?_
                  exact Go.sub [1, 2, 0] [(0, .ref a0), (2, .ref k14), (3, .int (l46_3 + (1 : Int32)))] rfl (ih (l46_3 + (1 : Int32)) l46S hf)
                · replace hf := f_el hf hc
                  exact Go.sub [0] [(0, .ref a0)] rfl (J74 hf)
        exact Go.sub [2, 1, 0] [(0, .ref a0), (2, .ref k14), (3, .int (0 : Int32))] rfl (L46 n (0 : Int32) S hf)
      · replace hf := f_el hf hc
        refine Go.aload_n 1 39 rfl dX6_beside_38 rfl ?_
        refine Go.iconst (5 : Int32) 40 rfl dX6_beside_39 ci_5 ?_
        obtain ⟨r40, S40, er40, hf⟩ := f_bn2 hf
        refine Go.cV 43 [.int (5 : Int32)] [] (C_X6_found G l n S a0 (5 : Int32) r40 S40 ha0 er40) rfl dX6_beside_40 cv_X6_74 ha0 (by decide) (by decide) rfl (Nat.le_of_ble_eq_true rfl) ?_
        exact Go.irS rfl dX6_beside_43 hf
    · replace hf := f_if hf hc
      refine Go.aload_n 1 24 rfl dX6_beside_23 rfl ?_
      refine Go.iconst (1 : Int32) 25 rfl dX6_beside_24 ci_1 ?_
      obtain ⟨r25, S25, er25, hf⟩ := f_bn2 hf
      refine Go.cV 28 [.int (1 : Int32)] [] (C_X6_found G l n S a0 (1 : Int32) r25 S25 ha0 er25) rfl dX6_beside_25 cv_X6_74 ha0 (by decide) (by decide) rfl (Nat.le_of_ble_eq_true rfl) ?_
      exact Go.irS rfl dX6_beside_28 hf
  · replace hf := f_if hf hc
    refine Go.iconst (-1 : Int32) 8 rfl dX6_beside_7 ci_m1 ?_
    exact Go.irS rfl dX6_beside_8 hf
theorem dX6_habit_0 : decode cX6_habit 0 = .ok (.aload_n 0, 1) := by decide +kernel
theorem dX6_habit_1 : decode cX6_habit 1 = .ok (.getfield 45, 3) := by decide +kernel
theorem dX6_habit_4 : decode cX6_habit 4 = .ok (.invokevirtual 258, 3) := by decide +kernel
theorem dX6_habit_7 : decode cX6_habit 7 = .ok (.istore_n 1, 1) := by decide +kernel
theorem dX6_habit_8 : decode cX6_habit 8 = .ok (.aload_n 0, 1) := by decide +kernel
theorem dX6_habit_9 : decode cX6_habit 9 = .ok (.iload_n 1, 1) := by decide +kernel
theorem dX6_habit_10 : decode cX6_habit 10 = .ok (.putfield 52, 3) := by decide +kernel
theorem dX6_habit_13 : decode cX6_habit 13 = .ok (.aload_n 0, 1) := by decide +kernel
theorem dX6_habit_14 : decode cX6_habit 14 = .ok (.getfield 45, 3) := by decide +kernel
theorem dX6_habit_17 : decode cX6_habit 17 = .ok (.getfield 115, 3) := by decide +kernel
theorem dX6_habit_20 : decode cX6_habit 20 = .ok (.iload_n 1, 1) := by decide +kernel
theorem dX6_habit_21 : decode cX6_habit 21 = .ok (.invokestatic 261, 3) := by decide +kernel
theorem dX6_habit_24 : decode cX6_habit 24 = .ok (.isub, 1) := by decide +kernel
theorem dX6_habit_25 : decode cX6_habit 25 = .ok (.ireturn, 1) := by decide +kernel
def F_X6_habit (n : Nat) (S : aSt) (a0 : Nat) : Option (Int32 × aSt) :=
rfd (S.2.2 a0 6) 0 fun k1 =>
(F_X1_strayCards n S k1).bind fun r4 =>
nm (stI S a0 8 r4) fun S10 =>
rfd (S10.2.2 a0 6) 0 fun k14 =>
(F_J6_bitCount_0f7a4 n S10 r4).bind fun r21 =>
some (((S10.1 k14 7) - r21), S10)
set_option maxHeartbeats 4000000 in
set_option maxRecDepth 100000 in
theorem C_X6_habit (G : aG) (l : Launch) (n : Nat) (S : aSt) (a0 : Nat) (r : Int32) (Sr : aSt) (ha0 : isT a0 5 = true) (hf : F_X6_habit n S a0 = some (r, Sr)) : Ctr G l yX6_habit mX6_habit (rmM 4) 97 97 S [.ref a0] (some (.int r)) Sr := by
  refine Ctr.of (by decide) rfl rfl (Nat.le_of_ble_eq_true rfl) [(0, .ref a0)] rfl ?_
  unfold F_X6_habit at hf
  refine Go.aload_n 0 1 rfl dX6_habit_0 rfl ?_
  obtain ⟨k1, qk1, hk1, hf⟩ := f_rfd hf
  refine Go.getR 4 rfl dX6_habit_1 fl_X6_45 rfl (isT_lt ha0) (isT_sh ha0) qk1 ?_
  obtain ⟨r4, er4, hf⟩ := f_bnd hf
  refine Go.cV 7 [] [] (C_X1_strayCards G l n S k1 r4 hk1 er4) rfl dX6_habit_4 cv_X6_258 hk1 (by decide) (by decide) rfl (Nat.le_of_ble_eq_true rfl) ?_
  refine Go.istore_n 8 [(1, .int r4), (0, .ref a0)] rfl dX6_habit_7 (by decide) rfl ?_
  refine Go.aload_n 1 9 rfl dX6_habit_8 rfl ?_
  refine Go.iload_n 0 10 rfl dX6_habit_9 rfl ?_
  obtain ⟨S10, eS10, hf⟩ := f_nm hf
  refine Go.putI 13 rfl dX6_habit_10 fp_X6_52 rfl (isT_lt ha0) (isT_sh ha0) (fun h => by cases h) (Go.stt S10 eS10 ?_)
  refine Go.aload_n 1 14 rfl dX6_habit_13 rfl ?_
  obtain ⟨k14, qk14, hk14, hf⟩ := f_rfd hf
  refine Go.getR 17 rfl dX6_habit_14 fl_X6_45 rfl (isT_lt ha0) (isT_sh ha0) qk14 ?_
  refine Go.getI 20 rfl dX6_habit_17 fl_X6_115 rfl (isT_lt hk14) (isT_sh hk14) ?_
  refine Go.iload_n 0 21 rfl dX6_habit_20 rfl ?_
  obtain ⟨r21, er21, hf⟩ := f_bnd hf
  refine Go.cS 24 [.int r4] [.int (S10.1 k14 7)] (C_J6_bitCount_0f7a4 G l n S10 r4 r21  er21) rfl dX6_habit_21 cx_X6_261 (by decide) (by decide) rfl (Nat.le_of_ble_eq_true rfl) ?_
  refine Go.isub 25 rfl dX6_habit_24 ?_
  exact Go.irS rfl dX6_habit_25 hf
theorem dX6_order_0 : decode cX6_order 0 = .ok (.aload_n 0, 1) := by decide +kernel
theorem dX6_order_1 : decode cX6_order 1 = .ok (.getfield 45, 3) := by decide +kernel
theorem dX6_order_4 : decode cX6_order 4 = .ok (.invokevirtual 266, 3) := by decide +kernel
theorem dX6_order_7 : decode cX6_order 7 = .ok (.ireturn, 1) := by decide +kernel
def F_X6_order (n : Nat) (S : aSt) (a0 : Nat) : Option Int32 :=
rfd (S.2.2 a0 6) 0 fun k1 =>
(F_X1_fewestMoved n S k1).bind fun r4 =>
some r4
set_option maxHeartbeats 4000000 in
set_option maxRecDepth 100000 in
theorem C_X6_order (G : aG) (l : Launch) (n : Nat) (S : aSt) (a0 : Nat) (r : Int32) (ha0 : isT a0 5 = true) (hf : F_X6_order n S a0 = some r) : Ctr G l yX6_order mX6_order (rmM 12) 97 97 S [.ref a0] (some (.int r)) S := by
  refine Ctr.of (by decide) rfl rfl (Nat.le_of_ble_eq_true rfl) [(0, .ref a0)] rfl ?_
  unfold F_X6_order at hf
  refine Go.aload_n 0 1 rfl dX6_order_0 rfl ?_
  obtain ⟨k1, qk1, hk1, hf⟩ := f_rfd hf
  refine Go.getR 4 rfl dX6_order_1 fl_X6_45 rfl (isT_lt ha0) (isT_sh ha0) qk1 ?_
  obtain ⟨r4, er4, hf⟩ := f_bnd hf
  refine Go.cV 7 [] [] (C_X1_fewestMoved G l n S k1 r4 hk1 er4) rfl dX6_order_4 cv_X6_266 hk1 (by decide) (by decide) rfl (Nat.le_of_ble_eq_true rfl) ?_
  exact Go.ir rfl dX6_order_7 hf
theorem dX6_byAge_0 : decode cX6_byAge 0 = .ok (.iload_n 1, 1) := by decide +kernel
theorem dX6_byAge_1 : decode cX6_byAge 1 = .ok (.invokestatic 70, 3) := by decide +kernel
theorem dX6_byAge_4 : decode cX6_byAge 4 = .ok (.ifCond .ne 5, 3) := by decide +kernel
theorem dX6_byAge_7 : decode cX6_byAge 7 = .ok (.iconst (-1), 1) := by decide +kernel
theorem dX6_byAge_8 : decode cX6_byAge 8 = .ok (.ireturn, 1) := by decide +kernel
theorem dX6_byAge_9 : decode cX6_byAge 9 = .ok (.aload_n 0, 1) := by decide +kernel
theorem dX6_byAge_10 : decode cX6_byAge 10 = .ok (.getfield 45, 3) := by decide +kernel
theorem dX6_byAge_13 : decode cX6_byAge 13 = .ok (.aload_n 0, 1) := by decide +kernel
theorem dX6_byAge_14 : decode cX6_byAge 14 = .ok (.getfield 11, 3) := by decide +kernel
theorem dX6_byAge_17 : decode cX6_byAge 17 = .ok (.iload_n 1, 1) := by decide +kernel
theorem dX6_byAge_18 : decode cX6_byAge 18 = .ok (.aaload, 1) := by decide +kernel
theorem dX6_byAge_19 : decode cX6_byAge 19 = .ok (.invokevirtual 269, 3) := by decide +kernel
theorem dX6_byAge_22 : decode cX6_byAge 22 = .ok (.aload_n 0, 1) := by decide +kernel
theorem dX6_byAge_23 : decode cX6_byAge 23 = .ok (.getfield 45, 3) := by decide +kernel
theorem dX6_byAge_26 : decode cX6_byAge 26 = .ok (.getfield 115, 3) := by decide +kernel
theorem dX6_byAge_29 : decode cX6_byAge 29 = .ok (.ireturn, 1) := by decide +kernel
def F_X6_byAge (n : Nat) (S : aSt) (a0 : Nat) (a1 : Int32) : Option (Int32 × aSt) :=
(F_X6_isRow n S a1).bind fun r1 =>
if r1 = 0 then (some ((-1 : Int32), S)) else
rfd (S.2.2 a0 6) 0 fun k10 =>
rfd (S.2.2 a0 0) 9 fun k14 =>
grd (inb a1 (SH k14).2) <|
rfd (S.2.2 k14 a1.toNatClampNeg) 3 fun k18 =>
(F_X1_layByAge n S k10 k18).bind fun S19 =>
rfd (S19.2.2 a0 6) 0 fun k23 =>
some ((S19.1 k23 7), S19)
set_option maxHeartbeats 4000000 in
set_option maxRecDepth 100000 in
theorem C_X6_byAge (G : aG) (l : Launch) (n : Nat) (S : aSt) (a0 : Nat) (a1 : Int32) (r : Int32) (Sr : aSt) (ha0 : isT a0 5 = true) (hf : F_X6_byAge n S a0 a1 = some (r, Sr)) : Ctr G l yX6_byAge mX6_byAge (rmM 4) 97 97 S [.ref a0, .int a1] (some (.int r)) Sr := by
  refine Ctr.of (by decide) rfl rfl (Nat.le_of_ble_eq_true rfl) [(0, .ref a0), (1, .int a1)] rfl ?_
  unfold F_X6_byAge at hf
  refine Go.iload_n 1 1 rfl dX6_byAge_0 rfl ?_
  obtain ⟨r1, er1, hf⟩ := f_bnd hf
  refine Go.cS 4 [.int a1] [] (C_X6_isRow G l n S a1 r1  er1) rfl dX6_byAge_1 cx_X6_70 (by decide) (by decide) rfl (Nat.le_of_ble_eq_true rfl) ?_
  refine Go.if_ne 9 7 rfl dX6_byAge_4 rfl (fun hc => ?_) (fun hc => ?_)
  · replace hf := f_el hf hc
    refine Go.aload_n 0 10 rfl dX6_byAge_9 rfl ?_
    obtain ⟨k10, qk10, hk10, hf⟩ := f_rfd hf
    refine Go.getR 13 rfl dX6_byAge_10 fl_X6_45 rfl (isT_lt ha0) (isT_sh ha0) qk10 ?_
    refine Go.aload_n 0 14 rfl dX6_byAge_13 rfl ?_
    obtain ⟨k14, qk14, hk14, hf⟩ := f_rfd hf
    refine Go.getR 17 rfl dX6_byAge_14 fl_X6_11 rfl (isT_lt ha0) (isT_sh ha0) qk14 ?_
    refine Go.iload_n 1 18 rfl dX6_byAge_17 rfl ?_
    obtain ⟨g18, hf⟩ := f_grd hf
    obtain ⟨k18, qk18, hk18, hf⟩ := f_rfd hf
    refine Go.aaldR 19 rfl dX6_byAge_18 (isT_lt hk14) (isT_sh hk14) g18 qk18 ?_
    obtain ⟨S19, eS19, hf⟩ := f_bnd hf
    refine Go.cVv 22 [.ref k18] [] (C_X1_layByAge G l n S k10 k18 S19 hk10 hk18 eS19) rfl dX6_byAge_19 cv_X6_269 hk10 (by decide) (by decide) rfl (Nat.le_of_ble_eq_true rfl) ?_
    refine Go.aload_n 0 23 rfl dX6_byAge_22 rfl ?_
    obtain ⟨k23, qk23, hk23, hf⟩ := f_rfd hf
    refine Go.getR 26 rfl dX6_byAge_23 fl_X6_45 rfl (isT_lt ha0) (isT_sh ha0) qk23 ?_
    refine Go.getI 29 rfl dX6_byAge_26 fl_X6_115 rfl (isT_lt hk23) (isT_sh hk23) ?_
    exact Go.irS rfl dX6_byAge_29 hf
  · replace hf := f_if hf hc
    refine Go.iconst (-1 : Int32) 8 rfl dX6_byAge_7 ci_m1 ?_
    exact Go.irS rfl dX6_byAge_8 hf
theorem dX6_lots_0 : decode cX6_lots 0 = .ok (.iload_n 1, 1) := by decide +kernel
theorem dX6_lots_1 : decode cX6_lots 1 = .ok (.iconst 1, 1) := by decide +kernel
theorem dX6_lots_2 : decode cX6_lots 2 = .ok (.if_icmp .lt 21, 3) := by decide +kernel
theorem dX6_lots_5 : decode cX6_lots 5 = .ok (.iload_n 1, 1) := by decide +kernel
theorem dX6_lots_6 : decode cX6_lots 6 = .ok (.bipush 20, 2) := by decide +kernel
theorem dX6_lots_8 : decode cX6_lots 8 = .ok (.if_icmp .gt 15, 3) := by decide +kernel
theorem dX6_lots_11 : decode cX6_lots 11 = .ok (.iload_n 2, 1) := by decide +kernel
theorem dX6_lots_12 : decode cX6_lots 12 = .ok (.iconst 1, 1) := by decide +kernel
theorem dX6_lots_13 : decode cX6_lots 13 = .ok (.if_icmp .lt 10, 3) := by decide +kernel
theorem dX6_lots_16 : decode cX6_lots 16 = .ok (.iload_n 2, 1) := by decide +kernel
theorem dX6_lots_17 : decode cX6_lots 17 = .ok (.ldc_w 272, 3) := by decide +kernel
theorem dX6_lots_20 : decode cX6_lots 20 = .ok (.if_icmp .lt 5, 3) := by decide +kernel
theorem dX6_lots_23 : decode cX6_lots 23 = .ok (.iconst (-1), 1) := by decide +kernel
theorem dX6_lots_24 : decode cX6_lots 24 = .ok (.ireturn, 1) := by decide +kernel
theorem dX6_lots_25 : decode cX6_lots 25 = .ok (.aload_n 0, 1) := by decide +kernel
theorem dX6_lots_26 : decode cX6_lots 26 = .ok (.getfield 45, 3) := by decide +kernel
theorem dX6_lots_29 : decode cX6_lots 29 = .ok (.getfield 204, 3) := by decide +kernel
theorem dX6_lots_32 : decode cX6_lots 32 = .ok (.ifCond .ne 6, 3) := by decide +kernel
theorem dX6_lots_35 : decode cX6_lots 35 = .ok (.bipush (-4), 2) := by decide +kernel
theorem dX6_lots_37 : decode cX6_lots 37 = .ok (.ireturn, 1) := by decide +kernel
theorem dX6_lots_38 : decode cX6_lots 38 = .ok (.aload_n 0, 1) := by decide +kernel
theorem dX6_lots_39 : decode cX6_lots 39 = .ok (.getfield 45, 3) := by decide +kernel
theorem dX6_lots_42 : decode cX6_lots 42 = .ok (.getfield 142, 3) := by decide +kernel
theorem dX6_lots_45 : decode cX6_lots 45 = .ok (.getfield 112, 3) := by decide +kernel
theorem dX6_lots_48 : decode cX6_lots 48 = .ok (.iload_n 1, 1) := by decide +kernel
theorem dX6_lots_49 : decode cX6_lots 49 = .ok (.iadd, 1) := by decide +kernel
theorem dX6_lots_50 : decode cX6_lots 50 = .ok (.bipush 40, 2) := by decide +kernel
theorem dX6_lots_52 : decode cX6_lots 52 = .ok (.if_icmp .le 6, 3) := by decide +kernel
theorem dX6_lots_55 : decode cX6_lots 55 = .ok (.bipush (-2), 2) := by decide +kernel
theorem dX6_lots_57 : decode cX6_lots 57 = .ok (.ireturn, 1) := by decide +kernel
theorem dX6_lots_58 : decode cX6_lots 58 = .ok (.iload_n 2, 1) := by decide +kernel
theorem dX6_lots_59 : decode cX6_lots 59 = .ok (.i2l, 1) := by decide +kernel
theorem dX6_lots_60 : decode cX6_lots 60 = .ok (.lstore_n 3, 1) := by decide +kernel
theorem dX6_lots_61 : decode cX6_lots 61 = .ok (.iconst 0, 1) := by decide +kernel
theorem dX6_lots_62 : decode cX6_lots 62 = .ok (.istore 5, 2) := by decide +kernel
theorem dX6_lots_64 : decode cX6_lots 64 = .ok (.iconst 0, 1) := by decide +kernel
theorem dX6_lots_65 : decode cX6_lots 65 = .ok (.istore 6, 2) := by decide +kernel
theorem dX6_lots_67 : decode cX6_lots 67 = .ok (.iload 6, 2) := by decide +kernel
theorem dX6_lots_69 : decode cX6_lots 69 = .ok (.iload_n 1, 1) := by decide +kernel
theorem dX6_lots_70 : decode cX6_lots 70 = .ok (.if_icmp .ge 72, 3) := by decide +kernel
theorem dX6_lots_73 : decode cX6_lots 73 = .ok (.lload_n 3, 1) := by decide +kernel
theorem dX6_lots_74 : decode cX6_lots 74 = .ok (.ldc2_w 273, 3) := by decide +kernel
theorem dX6_lots_77 : decode cX6_lots 77 = .ok (.lmul, 1) := by decide +kernel
theorem dX6_lots_78 : decode cX6_lots 78 = .ok (.ldc2_w 275, 3) := by decide +kernel
theorem dX6_lots_81 : decode cX6_lots 81 = .ok (.lrem, 1) := by decide +kernel
theorem dX6_lots_82 : decode cX6_lots 82 = .ok (.lstore_n 3, 1) := by decide +kernel
theorem dX6_lots_83 : decode cX6_lots 83 = .ok (.lload_n 3, 1) := by decide +kernel
theorem dX6_lots_84 : decode cX6_lots 84 = .ok (.aload_n 0, 1) := by decide +kernel
theorem dX6_lots_85 : decode cX6_lots 85 = .ok (.getfield 45, 3) := by decide +kernel
theorem dX6_lots_88 : decode cX6_lots 88 = .ok (.getfield 204, 3) := by decide +kernel
theorem dX6_lots_91 : decode cX6_lots 91 = .ok (.i2l, 1) := by decide +kernel
theorem dX6_lots_92 : decode cX6_lots 92 = .ok (.lrem, 1) := by decide +kernel
theorem dX6_lots_93 : decode cX6_lots 93 = .ok (.l2i, 1) := by decide +kernel
theorem dX6_lots_94 : decode cX6_lots 94 = .ok (.istore 7, 2) := by decide +kernel
theorem dX6_lots_96 : decode cX6_lots 96 = .ok (.aload_n 0, 1) := by decide +kernel
theorem dX6_lots_97 : decode cX6_lots 97 = .ok (.getfield 45, 3) := by decide +kernel
theorem dX6_lots_100 : decode cX6_lots 100 = .ok (.iload 7, 2) := by decide +kernel
theorem dX6_lots_102 : decode cX6_lots 102 = .ok (.lload_n 3, 1) := by decide +kernel
theorem dX6_lots_103 : decode cX6_lots 103 = .ok (.ldc2_w 277, 3) := by decide +kernel
theorem dX6_lots_106 : decode cX6_lots 106 = .ok (.ldiv, 1) := by decide +kernel
theorem dX6_lots_107 : decode cX6_lots 107 = .ok (.invokevirtual 279, 3) := by decide +kernel
theorem dX6_lots_110 : decode cX6_lots 110 = .ok (.istore 8, 2) := by decide +kernel
theorem dX6_lots_112 : decode cX6_lots 112 = .ok (.iload 8, 2) := by decide +kernel
theorem dX6_lots_114 : decode cX6_lots 114 = .ok (.bipush (-9), 2) := by decide +kernel
theorem dX6_lots_116 : decode cX6_lots 116 = .ok (.if_icmp .eq 20, 3) := by decide +kernel
theorem dX6_lots_119 : decode cX6_lots 119 = .ok (.aload_n 0, 1) := by decide +kernel
theorem dX6_lots_120 : decode cX6_lots 120 = .ok (.getfield 45, 3) := by decide +kernel
theorem dX6_lots_123 : decode cX6_lots 123 = .ok (.getfield 142, 3) := by decide +kernel
theorem dX6_lots_126 : decode cX6_lots 126 = .ok (.iload 7, 2) := by decide +kernel
theorem dX6_lots_128 : decode cX6_lots 128 = .ok (.iload 8, 2) := by decide +kernel
theorem dX6_lots_130 : decode cX6_lots 130 = .ok (.invokevirtual 167, 3) := by decide +kernel
theorem dX6_lots_133 : decode cX6_lots 133 = .ok (.iinc 5 1, 3) := by decide +kernel
theorem dX6_lots_136 : decode cX6_lots 136 = .ok (.iinc 6 1, 3) := by decide +kernel
theorem dX6_lots_139 : decode cX6_lots 139 = .ok (.goto (-72), 3) := by decide +kernel
theorem dX6_lots_142 : decode cX6_lots 142 = .ok (.iload 5, 2) := by decide +kernel
theorem dX6_lots_144 : decode cX6_lots 144 = .ok (.ireturn, 1) := by decide +kernel
def F_X6_lots_L67 (n : Nat) (a0 : Nat) (a1 : Int32) (K142 : Int32 → aSt → Option (Int32 × aSt)) : Nat → Int64 → Int32 → Int32 → aSt → Option (Int32 × aSt)
  | 0, _, _, _, _ => none
  | fu + 1, l67_3, l67_5, l67_6, l67S =>
    if a1 ≤ l67_6 then (K142 l67_5 l67S) else
    nm ((l67_3 * (48271 : Int64)) - (l67_3 * (48271 : Int64)) / (2147483647 : Int64) * (2147483647 : Int64)) fun v82 =>
    rfd (l67S.2.2 a0 6) 0 fun k85 =>
    grd (!decide ((l67S.1 k85 8).toInt64 = 0)) <|
    nm (v82 - v82 / (l67S.1 k85 8).toInt64 * (l67S.1 k85 8).toInt64).toInt32 fun v94 =>
    (F_X1_cardByLot n l67S k85 v94 (v82 / (64 : Int64))).bind fun r107 =>
    jn (fun (j136_5 : Int32) (j136S : aSt) => (F_X6_lots_L67 n a0 a1 K142 fu v82 j136_5 (l67_6 + (1 : Int32)) j136S : Option (Int32 × aSt))) fun K136 =>
    if r107 = (-9 : Int32) then (K136 l67_5 l67S) else
    rfd (l67S.2.2 k85 6) 4 fun k123 =>
    (F_X5_addTaking n l67S k123 v94 r107).bind fun S130 =>
    K136 (l67_5 + (1 : Int32)) S130
def F_X6_lots (n : Nat) (S : aSt) (a0 : Nat) (a1 : Int32) (a2 : Int32) : Option (Int32 × aSt) :=
if a1 < (1 : Int32) then (some ((-1 : Int32), S)) else
if (20 : Int32) < a1 then (some ((-1 : Int32), S)) else
if a2 < (1 : Int32) then (some ((-1 : Int32), S)) else
if a2 < (2147483647 : Int32) then (rfd (S.2.2 a0 6) 0 fun k26 =>
if (S.1 k26 8) = 0 then (some ((-4 : Int32), S)) else
rfd (S.2.2 k26 6) 4 fun k42 =>
if ((S.1 k42 6) + a1) ≤ (40 : Int32) then (jn (fun (x142_5 : Int32) (x142S : aSt) => (some (x142_5, x142S) : Option (Int32 × aSt))) fun K142 =>
F_X6_lots_L67 n a0 a1 K142 n a2.toInt64 (0 : Int32) (0 : Int32) S) else
some ((-2 : Int32), S)) else
some ((-1 : Int32), S)
set_option maxHeartbeats 4000000 in
set_option maxRecDepth 100000 in
theorem C_X6_lots (G : aG) (l : Launch) (n : Nat) (S : aSt) (a0 : Nat) (a1 : Int32) (a2 : Int32) (r : Int32) (Sr : aSt) (ha0 : isT a0 5 = true) (hf : F_X6_lots n S a0 a1 a2 = some (r, Sr)) : Ctr G l yX6_lots mX6_lots (rmM 6) 97 97 S [.ref a0, .int a1, .int a2] (some (.int r)) Sr := by
  refine Ctr.of (by decide) rfl rfl (Nat.le_of_ble_eq_true rfl) [(0, .ref a0), (1, .int a1), (2, .int a2)] rfl ?_
  unfold F_X6_lots at hf
  refine Go.iload_n 1 1 rfl dX6_lots_0 rfl ?_
  refine Go.iconst (1 : Int32) 2 rfl dX6_lots_1 ci_1 ?_
  refine Go.icmp_lt 23 5 rfl dX6_lots_2 rfl (fun hc => ?_) (fun hc => ?_)
  · replace hf := f_if hf hc
    refine Go.iconst (-1 : Int32) 24 rfl dX6_lots_23 ci_m1 ?_
    exact Go.irS rfl dX6_lots_24 hf
  · replace hf := f_el hf hc
    refine Go.iload_n 1 6 rfl dX6_lots_5 rfl ?_
    refine Go.bipush (20 : Int32) 8 rfl dX6_lots_6 cb_20 ?_
    refine Go.icmp_gt 23 11 rfl dX6_lots_8 rfl (fun hc => ?_) (fun hc => ?_)
    · replace hf := f_if hf hc
      refine Go.iconst (-1 : Int32) 24 rfl dX6_lots_23 ci_m1 ?_
      exact Go.irS rfl dX6_lots_24 hf
    · replace hf := f_el hf hc
      refine Go.iload_n 2 12 rfl dX6_lots_11 rfl ?_
      refine Go.iconst (1 : Int32) 13 rfl dX6_lots_12 ci_1 ?_
      refine Go.icmp_lt 23 16 rfl dX6_lots_13 rfl (fun hc => ?_) (fun hc => ?_)
      · replace hf := f_if hf hc
        refine Go.iconst (-1 : Int32) 24 rfl dX6_lots_23 ci_m1 ?_
        exact Go.irS rfl dX6_lots_24 hf
      · replace hf := f_el hf hc
        refine Go.iload_n 2 17 rfl dX6_lots_16 rfl ?_
        refine Go.ldcw (2147483647 : Int32) 20 rfl dX6_lots_17 (am_mem 764 (by decide +kernel) rfl) ?_
        refine Go.icmp_lt 25 23 rfl dX6_lots_20 rfl (fun hc => ?_) (fun hc => ?_)
        · replace hf := f_if hf hc
          refine Go.aload_n 0 26 rfl dX6_lots_25 rfl ?_
          obtain ⟨k26, qk26, hk26, hf⟩ := f_rfd hf
          refine Go.getR 29 rfl dX6_lots_26 fl_X6_45 rfl (isT_lt ha0) (isT_sh ha0) qk26 ?_
          refine Go.getI 32 rfl dX6_lots_29 fl_X6_204 rfl (isT_lt hk26) (isT_sh hk26) ?_
          refine Go.if_ne 38 35 rfl dX6_lots_32 rfl (fun hc => ?_) (fun hc => ?_)
          · replace hf := f_el hf hc
            refine Go.aload_n 0 39 rfl dX6_lots_38 rfl ?_
            refine Go.getR 42 rfl dX6_lots_39 fl_X6_45 rfl (isT_lt ha0) (isT_sh ha0) qk26 ?_
            obtain ⟨k42, qk42, hk42, hf⟩ := f_rfd hf
            refine Go.getR 45 rfl dX6_lots_42 fl_X6_142 rfl (isT_lt hk26) (isT_sh hk26) qk42 ?_
            refine Go.getI 48 rfl dX6_lots_45 fl_X6_112 rfl (isT_lt hk42) (isT_sh hk42) ?_
            refine Go.iload_n 1 49 rfl dX6_lots_48 rfl ?_
            refine Go.iadd 50 rfl dX6_lots_49 ?_
            refine Go.bipush (40 : Int32) 52 rfl dX6_lots_50 cb_40 ?_
            refine Go.icmp_le 58 55 rfl dX6_lots_52 rfl (fun hc => ?_) (fun hc => ?_)
            · replace hf := f_if hf hc
              refine Go.iload_n 2 59 rfl dX6_lots_58 rfl ?_
              refine Go.i2l 60 rfl dX6_lots_59 ?_
              refine Go.lstore_n 61 [(3, .long a2.toInt64), (0, .ref a0), (1, .int a1), (2, .int a2)] rfl dX6_lots_60 (by decide) rfl ?_
              refine Go.iconst (0 : Int32) 62 rfl dX6_lots_61 ci_0 ?_
              refine Go.istore 64 [(5, .int (0 : Int32)), (3, .long a2.toInt64), (0, .ref a0), (1, .int a1), (2, .int a2)] rfl dX6_lots_62 (by decide) rfl ?_
              refine Go.iconst (0 : Int32) 65 rfl dX6_lots_64 ci_0 ?_
              refine Go.istore 67 [(6, .int (0 : Int32)), (5, .int (0 : Int32)), (3, .long a2.toInt64), (0, .ref a0), (1, .int a1), (2, .int a2)] rfl dX6_lots_65 (by decide) rfl ?_
              obtain ⟨K142, eK142, hf⟩ := f_jn hf
              have J142 : ∀ (x142_5 : Int32) (x142S : aSt), K142 x142_5 x142S = some (r, Sr) → GoM G l 6 (TmR G (some (.int r)) 97 Sr 0 0) mX6_lots 142 [(5, .int x142_5)] [] x142S := by
                intro x142_5 x142S hf
                rw [eK142] at hf
                refine Go.iload 0 144 rfl dX6_lots_142 rfl ?_
                exact Go.irS rfl dX6_lots_144 hf
              clear eK142
              have L67 : ∀ (fu : Nat) (l67_3 : Int64) (l67_5 : Int32) (l67_6 : Int32) (l67S : aSt), F_X6_lots_L67 n a0 a1 K142 fu l67_3 l67_5 l67_6 l67S = some (r, Sr) → GoM G l 6 (TmR G (some (.int r)) 97 Sr 0 0) mX6_lots 67 [(0, .ref a0), (1, .int a1), (3, .long l67_3), (5, .int l67_5), (6, .int l67_6)] [] l67S := by
                intro fu
                induction fu with
                | zero => intro l67_3 l67_5 l67_6 l67S hf; rw [F_X6_lots_L67] at hf; cases hf
                | succ fu ih =>
                  intro l67_3 l67_5 l67_6 l67S hf
                  rw [F_X6_lots_L67] at hf
                  refine Go.iload 4 69 rfl dX6_lots_67 rfl ?_
                  refine Go.iload_n 1 70 rfl dX6_lots_69 rfl ?_
                  refine Go.icmp_ge 142 73 rfl dX6_lots_70 rfl (fun hc => ?_) (fun hc => ?_)
                  · replace hf := f_if hf hc
                    exact Go.sub [3] [(5, .int l67_5)] rfl (J142 l67_5 l67S hf)
                  · replace hf := f_el hf hc
                    refine Go.lload_n 2 74 rfl dX6_lots_73 rfl ?_
                    refine Go.ldc2 (48271 : Int64) 77 rfl dX6_lots_74 (am_mem 765 (by decide +kernel) rfl) ?_
                    refine Go.lmul 78 rfl dX6_lots_77 ?_
                    refine Go.ldc2 (2147483647 : Int64) 81 rfl dX6_lots_78 (am_mem 766 (by decide +kernel) rfl) ?_
                    refine Go.lrem 82 rfl dX6_lots_81 (by decide) ?_
                    obtain ⟨v82, ev82, hf⟩ := f_nm hf
                    refine Go.topl v82 ev82 ?_
                    refine Go.lstore_n 83 [(3, .long v82), (0, .ref a0), (1, .int a1), (5, .int l67_5), (6, .int l67_6)] rfl dX6_lots_82 (by decide) rfl ?_
                    refine Go.lload_n 0 84 rfl dX6_lots_83 rfl ?_
                    refine Go.aload_n 1 85 rfl dX6_lots_84 rfl ?_
                    obtain ⟨k85, qk85, hk85, hf⟩ := f_rfd hf
                    refine Go.getR 88 rfl dX6_lots_85 fl_X6_45 rfl (isT_lt ha0) (isT_sh ha0) qk85 ?_
                    refine Go.getI 91 rfl dX6_lots_88 fl_X6_204 rfl (isT_lt hk85) (isT_sh hk85) ?_
                    refine Go.i2l 92 rfl dX6_lots_91 ?_
                    obtain ⟨g92, hf⟩ := f_grd hf
                    refine Go.lrem 93 rfl dX6_lots_92 (by simpa using g92) ?_
                    refine Go.l2i 94 rfl dX6_lots_93 ?_
                    obtain ⟨v94, ev94, hf⟩ := f_nm hf
                    refine Go.topi v94 ev94 ?_
                    refine Go.istore 96 [(7, .int v94), (3, .long v82), (0, .ref a0), (1, .int a1), (5, .int l67_5), (6, .int l67_6)] rfl dX6_lots_94 (by decide) rfl ?_
                    refine Go.aload_n 2 97 rfl dX6_lots_96 rfl ?_
                    refine Go.getR 100 rfl dX6_lots_97 fl_X6_45 rfl (isT_lt ha0) (isT_sh ha0) qk85 ?_
                    refine Go.iload 0 102 rfl dX6_lots_100 rfl ?_
                    refine Go.lload_n 1 103 rfl dX6_lots_102 rfl ?_
                    refine Go.ldc2 (64 : Int64) 106 rfl dX6_lots_103 (am_mem 767 (by decide +kernel) rfl) ?_
                    refine Go.ldiv 107 rfl dX6_lots_106 (by decide) ?_
                    obtain ⟨r107, er107, hf⟩ := f_bnd hf
                    refine Go.cV 110 [.int v94, .long (v82 / (64 : Int64))] [] (C_X1_cardByLot G l n l67S k85 v94 (v82 / (64 : Int64)) r107 hk85 er107) rfl dX6_lots_107 cv_X6_279 hk85 (by decide) (by decide) rfl (Nat.le_of_ble_eq_true rfl) ?_
                    refine Go.istore 112 [(8, .int r107), (7, .int v94), (3, .long v82), (0, .ref a0), (1, .int a1), (5, .int l67_5), (6, .int l67_6)] rfl dX6_lots_110 (by decide) rfl ?_
                    refine Go.iload 0 114 rfl dX6_lots_112 rfl ?_
                    refine Go.bipush (-9 : Int32) 116 rfl dX6_lots_114 cb_m9 ?_
                    obtain ⟨K136, eK136, hf⟩ := f_jn hf
                    have J136 : ∀ (j136_5 : Int32) (j136S : aSt), K136 j136_5 j136S = some (r, Sr) → GoM G l 6 (TmR G (some (.int r)) 97 Sr 0 0) mX6_lots 136 [(0, .ref a0), (1, .int a1), (3, .long v82), (5, .int j136_5), (6, .int l67_6)] [] j136S := by
                      intro j136_5 j136S hf
                      rw [eK136] at hf
                      refine Go.inc 4 139 (1 : Int32) [(6, .int (l67_6 + (1 : Int32))), (0, .ref a0), (1, .int a1), (3, .long v82), (5, .int j136_5)] rfl dX6_lots_136 rfl ci_1 (by decide) rfl ?_
                      refine Go.goto 67 dX6_lots_139 rfl ?_
                      exact Go.sub [1, 2, 3, 4, 0] [(0, .ref a0), (1, .int a1), (3, .long v82), (5, .int j136_5), (6, .int (l67_6 + (1 : Int32)))] rfl (ih v82 j136_5 (l67_6 + (1 : Int32)) j136S hf)
                    clear eK136
                    refine Go.icmp_eq 136 119 rfl dX6_lots_116 rfl (fun hc => ?_) (fun hc => ?_)
                    · replace hf := f_if hf hc
                      exact Go.sub [3, 4, 2, 5, 6] [(0, .ref a0), (1, .int a1), (3, .long v82), (5, .int l67_5), (6, .int l67_6)] rfl (J136 l67_5 l67S hf)
                    · replace hf := f_el hf hc
                      refine Go.aload_n 3 120 rfl dX6_lots_119 rfl ?_
                      refine Go.getR 123 rfl dX6_lots_120 fl_X6_45 rfl (isT_lt ha0) (isT_sh ha0) qk85 ?_
                      obtain ⟨k123, qk123, hk123, hf⟩ := f_rfd hf
                      refine Go.getR 126 rfl dX6_lots_123 fl_X6_142 rfl (isT_lt hk85) (isT_sh hk85) qk123 ?_
                      refine Go.iload 1 128 rfl dX6_lots_126 rfl ?_
                      refine Go.iload 0 130 rfl dX6_lots_128 rfl ?_
                      obtain ⟨S130, eS130, hf⟩ := f_bnd hf
                      refine Go.cVv 133 [.int v94, .int r107] [] (C_X5_addTaking G l n l67S k123 v94 r107 S130 hk123 eS130) rfl dX6_lots_130 cv_X6_167 hk123 (by decide) (by decide) rfl (Nat.le_of_ble_eq_true rfl) ?_
                      refine Go.inc 5 136 (1 : Int32) [(5, .int (l67_5 + (1 : Int32))), (8, .int r107), (7, .int v94), (3, .long v82), (0, .ref a0), (1, .int a1), (6, .int l67_6)] rfl dX6_lots_133 rfl ci_1 (by decide) rfl ?_
                      exact Go.sub [4, 5, 3, 0, 6] [(0, .ref a0), (1, .int a1), (3, .long v82), (5, .int (l67_5 + (1 : Int32))), (6, .int l67_6)] rfl (J136 (l67_5 + (1 : Int32)) S130 hf)
              exact Go.sub [3, 4, 2, 1, 0] [(0, .ref a0), (1, .int a1), (3, .long a2.toInt64), (5, .int (0 : Int32)), (6, .int (0 : Int32))] rfl (L67 n a2.toInt64 (0 : Int32) (0 : Int32) S hf)
            · replace hf := f_el hf hc
              refine Go.bipush (-2 : Int32) 57 rfl dX6_lots_55 cb_m2 ?_
              exact Go.irS rfl dX6_lots_57 hf
          · replace hf := f_if hf hc
            refine Go.bipush (-4 : Int32) 37 rfl dX6_lots_35 cb_m4 ?_
            exact Go.irS rfl dX6_lots_37 hf
        · replace hf := f_el hf hc
          refine Go.iconst (-1 : Int32) 24 rfl dX6_lots_23 ci_m1 ?_
          exact Go.irS rfl dX6_lots_24 hf
theorem dX6_asked_0 : decode cX6_asked 0 = .ok (.aload_n 0, 1) := by decide +kernel
theorem dX6_asked_1 : decode cX6_asked 1 = .ok (.getfield 52, 3) := by decide +kernel
theorem dX6_asked_4 : decode cX6_asked 4 = .ok (.ireturn, 1) := by decide +kernel
def F_X6_asked (n : Nat) (S : aSt) (a0 : Nat) : Option Int32 :=
some (S.1 a0 8)
set_option maxHeartbeats 4000000 in
set_option maxRecDepth 100000 in
theorem C_X6_asked (G : aG) (l : Launch) (n : Nat) (S : aSt) (a0 : Nat) (r : Int32) (ha0 : isT a0 5 = true) (hf : F_X6_asked n S a0 = some r) : Ctr G l yX6_asked mX6_asked (rmM 1) 97 97 S [.ref a0] (some (.int r)) S := by
  refine Ctr.of (by decide) rfl rfl (Nat.le_of_ble_eq_true rfl) [(0, .ref a0)] rfl ?_
  unfold F_X6_asked at hf
  refine Go.aload_n 0 1 rfl dX6_asked_0 rfl ?_
  refine Go.getI 4 rfl dX6_asked_1 fl_X6_52 rfl (isT_lt ha0) (isT_sh ha0) ?_
  exact Go.ir rfl dX6_asked_4 hf
theorem dX6_upper_0 : decode cX6_upper 0 = .ok (.aload_n 0, 1) := by decide +kernel
theorem dX6_upper_1 : decode cX6_upper 1 = .ok (.getfield 56, 3) := by decide +kernel
theorem dX6_upper_4 : decode cX6_upper 4 = .ok (.lreturn, 1) := by decide +kernel
def F_X6_upper (n : Nat) (S : aSt) (a0 : Nat) : Option Int64 :=
some (S.2.1 a0 9)
set_option maxHeartbeats 4000000 in
set_option maxRecDepth 100000 in
theorem C_X6_upper (G : aG) (l : Launch) (n : Nat) (S : aSt) (a0 : Nat) (r : Int64) (ha0 : isT a0 5 = true) (hf : F_X6_upper n S a0 = some r) : Ctr G l yX6_upper mX6_upper (rmM 1) 97 97 S [.ref a0] (some (.long r)) S := by
  refine Ctr.of (by decide) rfl rfl (Nat.le_of_ble_eq_true rfl) [(0, .ref a0)] rfl ?_
  unfold F_X6_upper at hf
  refine Go.aload_n 0 1 rfl dX6_upper_0 rfl ?_
  refine Go.getL 4 rfl dX6_upper_1 fl_X6_56 rfl (isT_lt ha0) (isT_sh ha0) ?_
  exact Go.lr rfl dX6_upper_4 hf
theorem dX6_lower_0 : decode cX6_lower 0 = .ok (.aload_n 0, 1) := by decide +kernel
theorem dX6_lower_1 : decode cX6_lower 1 = .ok (.getfield 60, 3) := by decide +kernel
theorem dX6_lower_4 : decode cX6_lower 4 = .ok (.lreturn, 1) := by decide +kernel
def F_X6_lower (n : Nat) (S : aSt) (a0 : Nat) : Option Int64 :=
some (S.2.1 a0 10)
set_option maxHeartbeats 4000000 in
set_option maxRecDepth 100000 in
theorem C_X6_lower (G : aG) (l : Launch) (n : Nat) (S : aSt) (a0 : Nat) (r : Int64) (ha0 : isT a0 5 = true) (hf : F_X6_lower n S a0 = some r) : Ctr G l yX6_lower mX6_lower (rmM 1) 97 97 S [.ref a0] (some (.long r)) S := by
  refine Ctr.of (by decide) rfl rfl (Nat.le_of_ble_eq_true rfl) [(0, .ref a0)] rfl ?_
  unfold F_X6_lower at hf
  refine Go.aload_n 0 1 rfl dX6_lower_0 rfl ?_
  refine Go.getL 4 rfl dX6_lower_1 fl_X6_60 rfl (isT_lt ha0) (isT_sh ha0) ?_
  exact Go.lr rfl dX6_lower_4 hf
theorem dX6_keptThere_0 : decode cX6_keptThere 0 = .ok (.iconst 0, 1) := by decide +kernel
theorem dX6_keptThere_1 : decode cX6_keptThere 1 = .ok (.istore_n 1, 1) := by decide +kernel
theorem dX6_keptThere_2 : decode cX6_keptThere 2 = .ok (.iconst 0, 1) := by decide +kernel
theorem dX6_keptThere_3 : decode cX6_keptThere 3 = .ok (.istore_n 2, 1) := by decide +kernel
theorem dX6_keptThere_4 : decode cX6_keptThere 4 = .ok (.iload_n 2, 1) := by decide +kernel
theorem dX6_keptThere_5 : decode cX6_keptThere 5 = .ok (.iconst 3, 1) := by decide +kernel
theorem dX6_keptThere_6 : decode cX6_keptThere 6 = .ok (.if_icmp .ge 25, 3) := by decide +kernel
theorem dX6_keptThere_9 : decode cX6_keptThere 9 = .ok (.aload_n 0, 1) := by decide +kernel
theorem dX6_keptThere_10 : decode cX6_keptThere 10 = .ok (.getfield 20, 3) := by decide +kernel
theorem dX6_keptThere_13 : decode cX6_keptThere 13 = .ok (.iload_n 2, 1) := by decide +kernel
theorem dX6_keptThere_14 : decode cX6_keptThere 14 = .ok (.aaload, 1) := by decide +kernel
theorem dX6_keptThere_15 : decode cX6_keptThere 15 = .ok (.getfield 112, 3) := by decide +kernel
theorem dX6_keptThere_18 : decode cX6_keptThere 18 = .ok (.iconst (-1), 1) := by decide +kernel
theorem dX6_keptThere_19 : decode cX6_keptThere 19 = .ok (.if_icmp .eq 6, 3) := by decide +kernel
theorem dX6_keptThere_22 : decode cX6_keptThere 22 = .ok (.iinc 1 1, 3) := by decide +kernel
theorem dX6_keptThere_25 : decode cX6_keptThere 25 = .ok (.iinc 2 1, 3) := by decide +kernel
theorem dX6_keptThere_28 : decode cX6_keptThere 28 = .ok (.goto (-24), 3) := by decide +kernel
theorem dX6_keptThere_31 : decode cX6_keptThere 31 = .ok (.iload_n 1, 1) := by decide +kernel
theorem dX6_keptThere_32 : decode cX6_keptThere 32 = .ok (.ireturn, 1) := by decide +kernel
def F_X6_keptThere_L4 (S : aSt) (a0 : Nat) (K31 : Int32 → Option Int32) : Nat → Int32 → Int32 → Option Int32
  | 0, _, _ => none
  | fu + 1, l4_1, l4_2 =>
    if (3 : Int32) ≤ l4_2 then (K31 l4_1) else
    rfd (S.2.2 a0 2) 10 fun k10 =>
    grd (inb l4_2 (SH k10).2) <|
    rfd (S.2.2 k10 l4_2.toNatClampNeg) 4 fun k14 =>
    jn (fun (j25_1 : Int32) => (F_X6_keptThere_L4 S a0 K31 fu j25_1 (l4_2 + (1 : Int32)) : Option Int32)) fun K25 =>
    if (S.1 k14 6) = (-1 : Int32) then (K25 l4_1) else
    K25 (l4_1 + (1 : Int32))
def F_X6_keptThere (n : Nat) (S : aSt) (a0 : Nat) : Option Int32 :=
jn (fun (x31_1 : Int32) => (some x31_1 : Option Int32)) fun K31 =>
F_X6_keptThere_L4 S a0 K31 n (0 : Int32) (0 : Int32)
set_option maxHeartbeats 4000000 in
set_option maxRecDepth 100000 in
theorem C_X6_keptThere (G : aG) (l : Launch) (n : Nat) (S : aSt) (a0 : Nat) (r : Int32) (ha0 : isT a0 5 = true) (hf : F_X6_keptThere n S a0 = some r) : Ctr G l yX6_keptThere mX6_keptThere (rmM 1) 97 97 S [.ref a0] (some (.int r)) S := by
  refine Ctr.of (by decide) rfl rfl (Nat.le_of_ble_eq_true rfl) [(0, .ref a0)] rfl ?_
  unfold F_X6_keptThere at hf
  refine Go.iconst (0 : Int32) 1 rfl dX6_keptThere_0 ci_0 ?_
  refine Go.istore_n 2 [(1, .int (0 : Int32)), (0, .ref a0)] rfl dX6_keptThere_1 (by decide) rfl ?_
  refine Go.iconst (0 : Int32) 3 rfl dX6_keptThere_2 ci_0 ?_
  refine Go.istore_n 4 [(2, .int (0 : Int32)), (1, .int (0 : Int32)), (0, .ref a0)] rfl dX6_keptThere_3 (by decide) rfl ?_
  obtain ⟨K31, eK31, hf⟩ := f_jn hf
  have J31 : ∀ (x31_1 : Int32), K31 x31_1 = some r → GoM G l 1 (TmR G (some (.int r)) 97 S 0 0) mX6_keptThere 31 [(1, .int x31_1)] [] S := by
    intro x31_1 hf
    rw [eK31] at hf
    refine Go.iload_n 0 32 rfl dX6_keptThere_31 rfl ?_
    exact Go.ir rfl dX6_keptThere_32 hf
  clear eK31
  have L4 : ∀ (fu : Nat) (l4_1 : Int32) (l4_2 : Int32), F_X6_keptThere_L4 S a0 K31 fu l4_1 l4_2 = some r → GoM G l 1 (TmR G (some (.int r)) 97 S 0 0) mX6_keptThere 4 [(0, .ref a0), (1, .int l4_1), (2, .int l4_2)] [] S := by
    intro fu
    induction fu with
    | zero => intro l4_1 l4_2 hf; rw [F_X6_keptThere_L4] at hf; cases hf
    | succ fu ih =>
      intro l4_1 l4_2 hf
      rw [F_X6_keptThere_L4] at hf
      refine Go.iload_n 2 5 rfl dX6_keptThere_4 rfl ?_
      refine Go.iconst (3 : Int32) 6 rfl dX6_keptThere_5 ci_3 ?_
      refine Go.icmp_ge 31 9 rfl dX6_keptThere_6 rfl (fun hc => ?_) (fun hc => ?_)
      · replace hf := f_if hf hc
        exact Go.sub [1] [(1, .int l4_1)] rfl (J31 l4_1 hf)
      · replace hf := f_el hf hc
        refine Go.aload_n 0 10 rfl dX6_keptThere_9 rfl ?_
        obtain ⟨k10, qk10, hk10, hf⟩ := f_rfd hf
        refine Go.getR 13 rfl dX6_keptThere_10 fl_X6_20 rfl (isT_lt ha0) (isT_sh ha0) qk10 ?_
        refine Go.iload_n 2 14 rfl dX6_keptThere_13 rfl ?_
        obtain ⟨g14, hf⟩ := f_grd hf
        obtain ⟨k14, qk14, hk14, hf⟩ := f_rfd hf
        refine Go.aaldS 15 rfl dX6_keptThere_14 (isT_lt hk10) (isT_sh hk10) g14 qk14 ?_
        refine Go.getI 18 rfl dX6_keptThere_15 fl_X6_112 rfl (isT_lt hk14) (isT_sh hk14) ?_
        refine Go.iconst (-1 : Int32) 19 rfl dX6_keptThere_18 ci_m1 ?_
        obtain ⟨K25, eK25, hf⟩ := f_jn hf
        have J25 : ∀ (j25_1 : Int32), K25 j25_1 = some r → GoM G l 1 (TmR G (some (.int r)) 97 S 0 0) mX6_keptThere 25 [(0, .ref a0), (1, .int j25_1), (2, .int l4_2)] [] S := by
          intro j25_1 hf
          rw [eK25] at hf
          refine Go.inc 2 28 (1 : Int32) [(2, .int (l4_2 + (1 : Int32))), (0, .ref a0), (1, .int j25_1)] rfl dX6_keptThere_25 rfl ci_1 (by decide) rfl ?_
          refine Go.goto 4 dX6_keptThere_28 rfl ?_
          exact Go.sub [1, 2, 0] [(0, .ref a0), (1, .int j25_1), (2, .int (l4_2 + (1 : Int32)))] rfl (ih j25_1 (l4_2 + (1 : Int32)) hf)
        clear eK25
        refine Go.icmp_eq 25 22 rfl dX6_keptThere_19 rfl (fun hc => ?_) (fun hc => ?_)
        · replace hf := f_if hf hc
          exact J25 l4_1 hf
        · replace hf := f_el hf hc
          refine Go.inc 1 25 (1 : Int32) [(1, .int (l4_1 + (1 : Int32))), (0, .ref a0), (2, .int l4_2)] rfl dX6_keptThere_22 rfl ci_1 (by decide) rfl ?_
          exact Go.sub [1, 0, 2] [(0, .ref a0), (1, .int (l4_1 + (1 : Int32))), (2, .int l4_2)] rfl (J25 (l4_1 + (1 : Int32)) hf)
  exact Go.sub [2, 1, 0] [(0, .ref a0), (1, .int (0 : Int32)), (2, .int (0 : Int32))] rfl (L4 n (0 : Int32) (0 : Int32) hf)
theorem dX6_thereAmong_0 : decode cX6_thereAmong 0 = .ok (.iconst 0, 1) := by decide +kernel
theorem dX6_thereAmong_1 : decode cX6_thereAmong 1 = .ok (.istore_n 1, 1) := by decide +kernel
theorem dX6_thereAmong_2 : decode cX6_thereAmong 2 = .ok (.iconst 0, 1) := by decide +kernel
theorem dX6_thereAmong_3 : decode cX6_thereAmong 3 = .ok (.istore_n 2, 1) := by decide +kernel
theorem dX6_thereAmong_4 : decode cX6_thereAmong 4 = .ok (.iload_n 2, 1) := by decide +kernel
theorem dX6_thereAmong_5 : decode cX6_thereAmong 5 = .ok (.aload_n 0, 1) := by decide +kernel
theorem dX6_thereAmong_6 : decode cX6_thereAmong 6 = .ok (.arraylength, 1) := by decide +kernel
theorem dX6_thereAmong_7 : decode cX6_thereAmong 7 = .ok (.if_icmp .ge 21, 3) := by decide +kernel
theorem dX6_thereAmong_10 : decode cX6_thereAmong 10 = .ok (.aload_n 0, 1) := by decide +kernel
theorem dX6_thereAmong_11 : decode cX6_thereAmong 11 = .ok (.iload_n 2, 1) := by decide +kernel
theorem dX6_thereAmong_12 : decode cX6_thereAmong 12 = .ok (.aaload, 1) := by decide +kernel
theorem dX6_thereAmong_13 : decode cX6_thereAmong 13 = .ok (.invokevirtual 82, 3) := by decide +kernel
theorem dX6_thereAmong_16 : decode cX6_thereAmong 16 = .ok (.ifCond .eq 6, 3) := by decide +kernel
theorem dX6_thereAmong_19 : decode cX6_thereAmong 19 = .ok (.iinc 1 1, 3) := by decide +kernel
theorem dX6_thereAmong_22 : decode cX6_thereAmong 22 = .ok (.iinc 2 1, 3) := by decide +kernel
theorem dX6_thereAmong_25 : decode cX6_thereAmong 25 = .ok (.goto (-21), 3) := by decide +kernel
theorem dX6_thereAmong_28 : decode cX6_thereAmong 28 = .ok (.iload_n 1, 1) := by decide +kernel
theorem dX6_thereAmong_29 : decode cX6_thereAmong 29 = .ok (.ireturn, 1) := by decide +kernel
def F_X6_thereAmong_L4 (n : Nat) (S : aSt) (a0 : Nat) (K28 : Int32 → Option Int32) : Nat → Int32 → Int32 → Option Int32
  | 0, _, _ => none
  | fu + 1, l4_1, l4_2 =>
    if (Int32.ofNat (SH a0).2) ≤ l4_2 then (K28 l4_1) else
    grd (inb l4_2 (SH a0).2) <|
    rfd (S.2.2 a0 l4_2.toNatClampNeg) 3 fun k12 =>
    (F_X4_isThere n S k12).bind fun r13 =>
    jn (fun (j22_1 : Int32) => (F_X6_thereAmong_L4 n S a0 K28 fu j22_1 (l4_2 + (1 : Int32)) : Option Int32)) fun K22 =>
    if r13 = 0 then (K22 l4_1) else
    K22 (l4_1 + (1 : Int32))
def F_X6_thereAmong (n : Nat) (S : aSt) (a0 : Nat) : Option Int32 :=
jn (fun (x28_1 : Int32) => (some x28_1 : Option Int32)) fun K28 =>
F_X6_thereAmong_L4 n S a0 K28 n (0 : Int32) (0 : Int32)
set_option maxHeartbeats 4000000 in
set_option maxRecDepth 100000 in
theorem C_X6_thereAmong (G : aG) (l : Launch) (n : Nat) (S : aSt) (a0 : Nat) (r : Int32) (ha0 : isT a0 9 = true) (hf : F_X6_thereAmong n S a0 = some r) : Ctr G l yX6_thereAmong mX6_thereAmong (rmM 2) 97 97 S [.ref a0] (some (.int r)) S := by
  refine Ctr.of (by decide) rfl rfl (Nat.le_of_ble_eq_true rfl) [(0, .ref a0)] rfl ?_
  unfold F_X6_thereAmong at hf
  refine Go.iconst (0 : Int32) 1 rfl dX6_thereAmong_0 ci_0 ?_
  refine Go.istore_n 2 [(1, .int (0 : Int32)), (0, .ref a0)] rfl dX6_thereAmong_1 (by decide) rfl ?_
  refine Go.iconst (0 : Int32) 3 rfl dX6_thereAmong_2 ci_0 ?_
  refine Go.istore_n 4 [(2, .int (0 : Int32)), (1, .int (0 : Int32)), (0, .ref a0)] rfl dX6_thereAmong_3 (by decide) rfl ?_
  obtain ⟨K28, eK28, hf⟩ := f_jn hf
  have J28 : ∀ (x28_1 : Int32), K28 x28_1 = some r → GoM G l 2 (TmR G (some (.int r)) 97 S 0 0) mX6_thereAmong 28 [(1, .int x28_1)] [] S := by
    intro x28_1 hf
    rw [eK28] at hf
    refine Go.iload_n 0 29 rfl dX6_thereAmong_28 rfl ?_
    exact Go.ir rfl dX6_thereAmong_29 hf
  clear eK28
  have L4 : ∀ (fu : Nat) (l4_1 : Int32) (l4_2 : Int32), F_X6_thereAmong_L4 n S a0 K28 fu l4_1 l4_2 = some r → GoM G l 2 (TmR G (some (.int r)) 97 S 0 0) mX6_thereAmong 4 [(0, .ref a0), (1, .int l4_1), (2, .int l4_2)] [] S := by
    intro fu
    induction fu with
    | zero => intro l4_1 l4_2 hf; rw [F_X6_thereAmong_L4] at hf; cases hf
    | succ fu ih =>
      intro l4_1 l4_2 hf
      rw [F_X6_thereAmong_L4] at hf
      refine Go.iload_n 2 5 rfl dX6_thereAmong_4 rfl ?_
      refine Go.aload_n 0 6 rfl dX6_thereAmong_5 rfl ?_
      refine Go.alenR 7 rfl dX6_thereAmong_6 (isT_lt ha0) (isT_sh ha0) ?_
      refine Go.icmp_ge 28 10 rfl dX6_thereAmong_7 rfl (fun hc => ?_) (fun hc => ?_)
      · replace hf := f_if hf hc
        exact Go.sub [1] [(1, .int l4_1)] rfl (J28 l4_1 hf)
      · replace hf := f_el hf hc
        refine Go.aload_n 0 11 rfl dX6_thereAmong_10 rfl ?_
        refine Go.iload_n 2 12 rfl dX6_thereAmong_11 rfl ?_
        obtain ⟨g12, hf⟩ := f_grd hf
        obtain ⟨k12, qk12, hk12, hf⟩ := f_rfd hf
        refine Go.aaldR 13 rfl dX6_thereAmong_12 (isT_lt ha0) (isT_sh ha0) g12 qk12 ?_
        obtain ⟨r13, er13, hf⟩ := f_bnd hf
        refine Go.cV 16 [] [] (C_X4_isThere G l n S k12 r13 hk12 er13) rfl dX6_thereAmong_13 cv_X6_82 hk12 (by decide) (by decide) rfl (Nat.le_of_ble_eq_true rfl) ?_
        obtain ⟨K22, eK22, hf⟩ := f_jn hf
        have J22 : ∀ (j22_1 : Int32), K22 j22_1 = some r → GoM G l 2 (TmR G (some (.int r)) 97 S 0 0) mX6_thereAmong 22 [(0, .ref a0), (1, .int j22_1), (2, .int l4_2)] [] S := by
          intro j22_1 hf
          rw [eK22] at hf
          refine Go.inc 2 25 (1 : Int32) [(2, .int (l4_2 + (1 : Int32))), (0, .ref a0), (1, .int j22_1)] rfl dX6_thereAmong_22 rfl ci_1 (by decide) rfl ?_
          refine Go.goto 4 dX6_thereAmong_25 rfl ?_
          exact Go.sub [1, 2, 0] [(0, .ref a0), (1, .int j22_1), (2, .int (l4_2 + (1 : Int32)))] rfl (ih j22_1 (l4_2 + (1 : Int32)) hf)
        clear eK22
        refine Go.if_eq 22 19 rfl dX6_thereAmong_16 rfl (fun hc => ?_) (fun hc => ?_)
        · replace hf := f_if hf hc
          exact J22 l4_1 hf
        · replace hf := f_el hf hc
          refine Go.inc 1 22 (1 : Int32) [(1, .int (l4_1 + (1 : Int32))), (0, .ref a0), (2, .int l4_2)] rfl dX6_thereAmong_19 rfl ci_1 (by decide) rfl ?_
          exact Go.sub [1, 0, 2] [(0, .ref a0), (1, .int (l4_1 + (1 : Int32))), (2, .int l4_2)] rfl (J22 (l4_1 + (1 : Int32)) hf)
  exact Go.sub [2, 1, 0] [(0, .ref a0), (1, .int (0 : Int32)), (2, .int (0 : Int32))] rfl (L4 n (0 : Int32) (0 : Int32) hf)
theorem dX6_count_0 : decode cX6_count 0 = .ok (.iload_n 1, 1) := by decide +kernel
theorem dX6_count_1 : decode cX6_count 1 = .ok (.tableswitch 139 0 8 #[51, 59, 67, 78, 94, 110, 118, 126, 134], 51) := by decide +kernel
theorem dX6_count_52 : decode cX6_count 52 = .ok (.aload_n 0, 1) := by decide +kernel
theorem dX6_count_53 : decode cX6_count 53 = .ok (.getfield 45, 3) := by decide +kernel
theorem dX6_count_56 : decode cX6_count 56 = .ok (.getfield 115, 3) := by decide +kernel
theorem dX6_count_59 : decode cX6_count 59 = .ok (.ireturn, 1) := by decide +kernel
theorem dX6_count_60 : decode cX6_count 60 = .ok (.aload_n 0, 1) := by decide +kernel
theorem dX6_count_61 : decode cX6_count 61 = .ok (.getfield 45, 3) := by decide +kernel
theorem dX6_count_64 : decode cX6_count 64 = .ok (.getfield 204, 3) := by decide +kernel
theorem dX6_count_67 : decode cX6_count 67 = .ok (.ireturn, 1) := by decide +kernel
theorem dX6_count_68 : decode cX6_count 68 = .ok (.aload_n 0, 1) := by decide +kernel
theorem dX6_count_69 : decode cX6_count 69 = .ok (.getfield 45, 3) := by decide +kernel
theorem dX6_count_72 : decode cX6_count 72 = .ok (.getfield 142, 3) := by decide +kernel
theorem dX6_count_75 : decode cX6_count 75 = .ok (.getfield 112, 3) := by decide +kernel
theorem dX6_count_78 : decode cX6_count 78 = .ok (.ireturn, 1) := by decide +kernel
theorem dX6_count_79 : decode cX6_count 79 = .ok (.aload_n 0, 1) := by decide +kernel
theorem dX6_count_80 : decode cX6_count 80 = .ok (.getfield 45, 3) := by decide +kernel
theorem dX6_count_83 : decode cX6_count 83 = .ok (.getfield 115, 3) := by decide +kernel
theorem dX6_count_86 : decode cX6_count 86 = .ok (.aload_n 0, 1) := by decide +kernel
theorem dX6_count_87 : decode cX6_count 87 = .ok (.getfield 45, 3) := by decide +kernel
theorem dX6_count_90 : decode cX6_count 90 = .ok (.invokevirtual 283, 3) := by decide +kernel
theorem dX6_count_93 : decode cX6_count 93 = .ok (.isub, 1) := by decide +kernel
theorem dX6_count_94 : decode cX6_count 94 = .ok (.ireturn, 1) := by decide +kernel
theorem dX6_count_95 : decode cX6_count 95 = .ok (.aload_n 0, 1) := by decide +kernel
theorem dX6_count_96 : decode cX6_count 96 = .ok (.getfield 45, 3) := by decide +kernel
theorem dX6_count_99 : decode cX6_count 99 = .ok (.getfield 204, 3) := by decide +kernel
theorem dX6_count_102 : decode cX6_count 102 = .ok (.aload_n 0, 1) := by decide +kernel
theorem dX6_count_103 : decode cX6_count 103 = .ok (.getfield 45, 3) := by decide +kernel
theorem dX6_count_106 : decode cX6_count 106 = .ok (.invokevirtual 283, 3) := by decide +kernel
theorem dX6_count_109 : decode cX6_count 109 = .ok (.isub, 1) := by decide +kernel
theorem dX6_count_110 : decode cX6_count 110 = .ok (.ireturn, 1) := by decide +kernel
theorem dX6_count_111 : decode cX6_count 111 = .ok (.aload_n 0, 1) := by decide +kernel
theorem dX6_count_112 : decode cX6_count 112 = .ok (.getfield 45, 3) := by decide +kernel
theorem dX6_count_115 : decode cX6_count 115 = .ok (.invokevirtual 286, 3) := by decide +kernel
theorem dX6_count_118 : decode cX6_count 118 = .ok (.ireturn, 1) := by decide +kernel
theorem dX6_count_119 : decode cX6_count 119 = .ok (.aload_n 0, 1) := by decide +kernel
theorem dX6_count_120 : decode cX6_count 120 = .ok (.getfield 11, 3) := by decide +kernel
theorem dX6_count_123 : decode cX6_count 123 = .ok (.invokestatic 289, 3) := by decide +kernel
theorem dX6_count_126 : decode cX6_count 126 = .ok (.ireturn, 1) := by decide +kernel
theorem dX6_count_127 : decode cX6_count 127 = .ok (.aload_n 0, 1) := by decide +kernel
theorem dX6_count_128 : decode cX6_count 128 = .ok (.getfield 15, 3) := by decide +kernel
theorem dX6_count_131 : decode cX6_count 131 = .ok (.invokestatic 289, 3) := by decide +kernel
theorem dX6_count_134 : decode cX6_count 134 = .ok (.ireturn, 1) := by decide +kernel
theorem dX6_count_135 : decode cX6_count 135 = .ok (.aload_n 0, 1) := by decide +kernel
theorem dX6_count_136 : decode cX6_count 136 = .ok (.invokevirtual 293, 3) := by decide +kernel
theorem dX6_count_139 : decode cX6_count 139 = .ok (.ireturn, 1) := by decide +kernel
theorem dX6_count_140 : decode cX6_count 140 = .ok (.iconst (-1), 1) := by decide +kernel
theorem dX6_count_141 : decode cX6_count 141 = .ok (.ireturn, 1) := by decide +kernel
def F_X6_count (n : Nat) (S : aSt) (a0 : Nat) (a1 : Int32) : Option Int32 :=
if a1 = (0 : Int32) then (rfd (S.2.2 a0 6) 0 fun k53 =>
some (S.1 k53 7)) else
if a1 = (1 : Int32) then (rfd (S.2.2 a0 6) 0 fun k61 =>
some (S.1 k61 8)) else
if a1 = (2 : Int32) then (rfd (S.2.2 a0 6) 0 fun k69 =>
rfd (S.2.2 k69 6) 4 fun k72 =>
some (S.1 k72 6)) else
if a1 = (3 : Int32) then (rfd (S.2.2 a0 6) 0 fun k80 =>
(F_X1_answered n S k80).bind fun r90 =>
some ((S.1 k80 7) - r90)) else
if a1 = (4 : Int32) then (rfd (S.2.2 a0 6) 0 fun k96 =>
(F_X1_answered n S k96).bind fun r106 =>
some ((S.1 k96 8) - r106)) else
if a1 = (5 : Int32) then (rfd (S.2.2 a0 6) 0 fun k112 =>
(F_X1_placesAmong n S k112).bind fun r115 =>
some r115) else
if a1 = (6 : Int32) then (rfd (S.2.2 a0 0) 9 fun k120 =>
(F_X6_thereAmong n S k120).bind fun r123 =>
some r123) else
if a1 = (7 : Int32) then (rfd (S.2.2 a0 1) 9 fun k128 =>
(F_X6_thereAmong n S k128).bind fun r131 =>
some r131) else
if a1 = (8 : Int32) then ((F_X6_keptThere n S a0).bind fun r136 =>
some r136) else
some (-1 : Int32)
set_option maxHeartbeats 4000000 in
set_option maxRecDepth 100000 in
theorem C_X6_count (G : aG) (l : Launch) (n : Nat) (S : aSt) (a0 : Nat) (a1 : Int32) (r : Int32) (ha0 : isT a0 5 = true) (hf : F_X6_count n S a0 a1 = some r) : Ctr G l yX6_count mX6_count (rmM 3) 97 97 S [.ref a0, .int a1] (some (.int r)) S := by
  refine Ctr.of (by decide) rfl rfl (Nat.le_of_ble_eq_true rfl) [(0, .ref a0), (1, .int a1)] rfl ?_
  unfold F_X6_count at hf
  refine Go.iload_n 1 1 rfl dX6_count_0 rfl ?_
  by_cases hs1_0 : a1 = (0 : Int32)
  · replace hf := f_if hf hs1_0
    refine Go.tin (0 : Int32) 52 hs1_0 dX6_count_1 (by decide) (by decide) rfl rfl ?_
    refine Go.aload_n 0 53 rfl dX6_count_52 rfl ?_
    obtain ⟨k53, qk53, hk53, hf⟩ := f_rfd hf
    refine Go.getR 56 rfl dX6_count_53 fl_X6_45 rfl (isT_lt ha0) (isT_sh ha0) qk53 ?_
    refine Go.getI 59 rfl dX6_count_56 fl_X6_115 rfl (isT_lt hk53) (isT_sh hk53) ?_
    exact Go.ir rfl dX6_count_59 hf
  replace hf := f_el hf hs1_0
  by_cases hs1_1 : a1 = (1 : Int32)
  · replace hf := f_if hf hs1_1
    refine Go.tin (1 : Int32) 60 hs1_1 dX6_count_1 (by decide) (by decide) rfl rfl ?_
    refine Go.aload_n 0 61 rfl dX6_count_60 rfl ?_
    obtain ⟨k61, qk61, hk61, hf⟩ := f_rfd hf
    refine Go.getR 64 rfl dX6_count_61 fl_X6_45 rfl (isT_lt ha0) (isT_sh ha0) qk61 ?_
    refine Go.getI 67 rfl dX6_count_64 fl_X6_204 rfl (isT_lt hk61) (isT_sh hk61) ?_
    exact Go.ir rfl dX6_count_67 hf
  replace hf := f_el hf hs1_1
  by_cases hs1_2 : a1 = (2 : Int32)
  · replace hf := f_if hf hs1_2
    refine Go.tin (2 : Int32) 68 hs1_2 dX6_count_1 (by decide) (by decide) rfl rfl ?_
    refine Go.aload_n 0 69 rfl dX6_count_68 rfl ?_
    obtain ⟨k69, qk69, hk69, hf⟩ := f_rfd hf
    refine Go.getR 72 rfl dX6_count_69 fl_X6_45 rfl (isT_lt ha0) (isT_sh ha0) qk69 ?_
    obtain ⟨k72, qk72, hk72, hf⟩ := f_rfd hf
    refine Go.getR 75 rfl dX6_count_72 fl_X6_142 rfl (isT_lt hk69) (isT_sh hk69) qk72 ?_
    refine Go.getI 78 rfl dX6_count_75 fl_X6_112 rfl (isT_lt hk72) (isT_sh hk72) ?_
    exact Go.ir rfl dX6_count_78 hf
  replace hf := f_el hf hs1_2
  by_cases hs1_3 : a1 = (3 : Int32)
  · replace hf := f_if hf hs1_3
    refine Go.tin (3 : Int32) 79 hs1_3 dX6_count_1 (by decide) (by decide) rfl rfl ?_
    refine Go.aload_n 0 80 rfl dX6_count_79 rfl ?_
    obtain ⟨k80, qk80, hk80, hf⟩ := f_rfd hf
    refine Go.getR 83 rfl dX6_count_80 fl_X6_45 rfl (isT_lt ha0) (isT_sh ha0) qk80 ?_
    refine Go.getI 86 rfl dX6_count_83 fl_X6_115 rfl (isT_lt hk80) (isT_sh hk80) ?_
    refine Go.aload_n 0 87 rfl dX6_count_86 rfl ?_
    refine Go.getR 90 rfl dX6_count_87 fl_X6_45 rfl (isT_lt ha0) (isT_sh ha0) qk80 ?_
    obtain ⟨r90, er90, hf⟩ := f_bnd hf
    refine Go.cV 93 [] [.int (S.1 k80 7)] (C_X1_answered G l n S k80 r90 hk80 er90) rfl dX6_count_90 cv_X6_283 hk80 (by decide) (by decide) rfl (Nat.le_of_ble_eq_true rfl) ?_
    refine Go.isub 94 rfl dX6_count_93 ?_
    exact Go.ir rfl dX6_count_94 hf
  replace hf := f_el hf hs1_3
  by_cases hs1_4 : a1 = (4 : Int32)
  · replace hf := f_if hf hs1_4
    refine Go.tin (4 : Int32) 95 hs1_4 dX6_count_1 (by decide) (by decide) rfl rfl ?_
    refine Go.aload_n 0 96 rfl dX6_count_95 rfl ?_
    obtain ⟨k96, qk96, hk96, hf⟩ := f_rfd hf
    refine Go.getR 99 rfl dX6_count_96 fl_X6_45 rfl (isT_lt ha0) (isT_sh ha0) qk96 ?_
    refine Go.getI 102 rfl dX6_count_99 fl_X6_204 rfl (isT_lt hk96) (isT_sh hk96) ?_
    refine Go.aload_n 0 103 rfl dX6_count_102 rfl ?_
    refine Go.getR 106 rfl dX6_count_103 fl_X6_45 rfl (isT_lt ha0) (isT_sh ha0) qk96 ?_
    obtain ⟨r106, er106, hf⟩ := f_bnd hf
    refine Go.cV 109 [] [.int (S.1 k96 8)] (C_X1_answered G l n S k96 r106 hk96 er106) rfl dX6_count_106 cv_X6_283 hk96 (by decide) (by decide) rfl (Nat.le_of_ble_eq_true rfl) ?_
    refine Go.isub 110 rfl dX6_count_109 ?_
    exact Go.ir rfl dX6_count_110 hf
  replace hf := f_el hf hs1_4
  by_cases hs1_5 : a1 = (5 : Int32)
  · replace hf := f_if hf hs1_5
    refine Go.tin (5 : Int32) 111 hs1_5 dX6_count_1 (by decide) (by decide) rfl rfl ?_
    refine Go.aload_n 0 112 rfl dX6_count_111 rfl ?_
    obtain ⟨k112, qk112, hk112, hf⟩ := f_rfd hf
    refine Go.getR 115 rfl dX6_count_112 fl_X6_45 rfl (isT_lt ha0) (isT_sh ha0) qk112 ?_
    obtain ⟨r115, er115, hf⟩ := f_bnd hf
    refine Go.cV 118 [] [] (C_X1_placesAmong G l n S k112 r115 hk112 er115) rfl dX6_count_115 cv_X6_286 hk112 (by decide) (by decide) rfl (Nat.le_of_ble_eq_true rfl) ?_
    exact Go.ir rfl dX6_count_118 hf
  replace hf := f_el hf hs1_5
  by_cases hs1_6 : a1 = (6 : Int32)
  · replace hf := f_if hf hs1_6
    refine Go.tin (6 : Int32) 119 hs1_6 dX6_count_1 (by decide) (by decide) rfl rfl ?_
    refine Go.aload_n 0 120 rfl dX6_count_119 rfl ?_
    obtain ⟨k120, qk120, hk120, hf⟩ := f_rfd hf
    refine Go.getR 123 rfl dX6_count_120 fl_X6_11 rfl (isT_lt ha0) (isT_sh ha0) qk120 ?_
    obtain ⟨r123, er123, hf⟩ := f_bnd hf
    refine Go.cS 126 [.ref k120] [] (C_X6_thereAmong G l n S k120 r123 hk120 er123) rfl dX6_count_123 cx_X6_289 (by decide) (by decide) rfl (Nat.le_of_ble_eq_true rfl) ?_
    exact Go.ir rfl dX6_count_126 hf
  replace hf := f_el hf hs1_6
  by_cases hs1_7 : a1 = (7 : Int32)
  · replace hf := f_if hf hs1_7
    refine Go.tin (7 : Int32) 127 hs1_7 dX6_count_1 (by decide) (by decide) rfl rfl ?_
    refine Go.aload_n 0 128 rfl dX6_count_127 rfl ?_
    obtain ⟨k128, qk128, hk128, hf⟩ := f_rfd hf
    refine Go.getR 131 rfl dX6_count_128 fl_X6_15 rfl (isT_lt ha0) (isT_sh ha0) qk128 ?_
    obtain ⟨r131, er131, hf⟩ := f_bnd hf
    refine Go.cS 134 [.ref k128] [] (C_X6_thereAmong G l n S k128 r131 hk128 er131) rfl dX6_count_131 cx_X6_289 (by decide) (by decide) rfl (Nat.le_of_ble_eq_true rfl) ?_
    exact Go.ir rfl dX6_count_134 hf
  replace hf := f_el hf hs1_7
  by_cases hs1_8 : a1 = (8 : Int32)
  · replace hf := f_if hf hs1_8
    refine Go.tin (8 : Int32) 135 hs1_8 dX6_count_1 (by decide) (by decide) rfl rfl ?_
    refine Go.aload_n 0 136 rfl dX6_count_135 rfl ?_
    obtain ⟨r136, er136, hf⟩ := f_bnd hf
    refine Go.cV 139 [] [] (C_X6_keptThere G l n S a0 r136 ha0 er136) rfl dX6_count_136 cv_X6_293 ha0 (by decide) (by decide) rfl (Nat.le_of_ble_eq_true rfl) ?_
    exact Go.ir rfl dX6_count_139 hf
  replace hf := f_el hf hs1_8
  have nhs1_0 := tsw_ne (z := 0) hs1_0 (by decide)
  have nhs1_1 := tsw_ne (z := 1) hs1_1 (by decide)
  have nhs1_2 := tsw_ne (z := 2) hs1_2 (by decide)
  have nhs1_3 := tsw_ne (z := 3) hs1_3 (by decide)
  have nhs1_4 := tsw_ne (z := 4) hs1_4 (by decide)
  have nhs1_5 := tsw_ne (z := 5) hs1_5 (by decide)
  have nhs1_6 := tsw_ne (z := 6) hs1_6 (by decide)
  have nhs1_7 := tsw_ne (z := 7) hs1_7 (by decide)
  have nhs1_8 := tsw_ne (z := 8) hs1_8 (by decide)
  refine Go.tout 140 dX6_count_1 (by omega) rfl ?_
  refine Go.iconst (-1 : Int32) 141 rfl dX6_count_140 ci_m1 ?_
  exact Go.ir rfl dX6_count_141 hf
theorem dX6_finding_0 : decode cX6_finding 0 = .ok (.aload_n 0, 1) := by decide +kernel
theorem dX6_finding_1 : decode cX6_finding 1 = .ok (.getfield 63, 3) := by decide +kernel
theorem dX6_finding_4 : decode cX6_finding 4 = .ok (.ireturn, 1) := by decide +kernel
def F_X6_finding (n : Nat) (S : aSt) (a0 : Nat) : Option Int32 :=
some (S.1 a0 11)
set_option maxHeartbeats 4000000 in
set_option maxRecDepth 100000 in
theorem C_X6_finding (G : aG) (l : Launch) (n : Nat) (S : aSt) (a0 : Nat) (r : Int32) (ha0 : isT a0 5 = true) (hf : F_X6_finding n S a0 = some r) : Ctr G l yX6_finding mX6_finding (rmM 1) 97 97 S [.ref a0] (some (.int r)) S := by
  refine Ctr.of (by decide) rfl rfl (Nat.le_of_ble_eq_true rfl) [(0, .ref a0)] rfl ?_
  unfold F_X6_finding at hf
  refine Go.aload_n 0 1 rfl dX6_finding_0 rfl ?_
  refine Go.getI 4 rfl dX6_finding_1 fl_X6_63 rfl (isT_lt ha0) (isT_sh ha0) ?_
  exact Go.ir rfl dX6_finding_4 hf
theorem dX6_findings_0 : decode cX6_findings 0 = .ok (.iload_n 1, 1) := by decide +kernel
theorem dX6_findings_1 : decode cX6_findings 1 = .ok (.iconst 1, 1) := by decide +kernel
theorem dX6_findings_2 : decode cX6_findings 2 = .ok (.if_icmp .lt 8, 3) := by decide +kernel
theorem dX6_findings_5 : decode cX6_findings 5 = .ok (.iload_n 1, 1) := by decide +kernel
theorem dX6_findings_6 : decode cX6_findings 6 = .ok (.iconst 5, 1) := by decide +kernel
theorem dX6_findings_7 : decode cX6_findings 7 = .ok (.if_icmp .le 7, 3) := by decide +kernel
theorem dX6_findings_10 : decode cX6_findings 10 = .ok (.iconst (-1), 1) := by decide +kernel
theorem dX6_findings_11 : decode cX6_findings 11 = .ok (.goto 9, 3) := by decide +kernel
theorem dX6_findings_14 : decode cX6_findings 14 = .ok (.aload_n 0, 1) := by decide +kernel
theorem dX6_findings_15 : decode cX6_findings 15 = .ok (.getfield 24, 3) := by decide +kernel
theorem dX6_findings_18 : decode cX6_findings 18 = .ok (.iload_n 1, 1) := by decide +kernel
theorem dX6_findings_19 : decode cX6_findings 19 = .ok (.iaload, 1) := by decide +kernel
theorem dX6_findings_20 : decode cX6_findings 20 = .ok (.ireturn, 1) := by decide +kernel
def F_X6_findings (n : Nat) (S : aSt) (a0 : Nat) (a1 : Int32) : Option Int32 :=
if a1 < (1 : Int32) then (some (-1 : Int32)) else
if a1 ≤ (5 : Int32) then (rfd (S.2.2 a0 3) 7 fun k15 =>
grd (inb a1 (SH k15).2) <|
some (S.1 k15 a1.toNatClampNeg)) else
some (-1 : Int32)
set_option maxHeartbeats 4000000 in
set_option maxRecDepth 100000 in
theorem C_X6_findings (G : aG) (l : Launch) (n : Nat) (S : aSt) (a0 : Nat) (a1 : Int32) (r : Int32) (ha0 : isT a0 5 = true) (hf : F_X6_findings n S a0 a1 = some r) : Ctr G l yX6_findings mX6_findings (rmM 1) 97 97 S [.ref a0, .int a1] (some (.int r)) S := by
  refine Ctr.of (by decide) rfl rfl (Nat.le_of_ble_eq_true rfl) [(0, .ref a0), (1, .int a1)] rfl ?_
  unfold F_X6_findings at hf
  refine Go.iload_n 1 1 rfl dX6_findings_0 rfl ?_
  refine Go.iconst (1 : Int32) 2 rfl dX6_findings_1 ci_1 ?_
  refine Go.icmp_lt 10 5 rfl dX6_findings_2 rfl (fun hc => ?_) (fun hc => ?_)
  · replace hf := f_if hf hc
    refine Go.iconst (-1 : Int32) 11 rfl dX6_findings_10 ci_m1 ?_
    refine Go.goto 20 dX6_findings_11 rfl ?_
    exact Go.ir rfl dX6_findings_20 hf
  · replace hf := f_el hf hc
    refine Go.iload_n 1 6 rfl dX6_findings_5 rfl ?_
    refine Go.iconst (5 : Int32) 7 rfl dX6_findings_6 ci_5 ?_
    refine Go.icmp_le 14 10 rfl dX6_findings_7 rfl (fun hc => ?_) (fun hc => ?_)
    · replace hf := f_if hf hc
      refine Go.aload_n 0 15 rfl dX6_findings_14 rfl ?_
      obtain ⟨k15, qk15, hk15, hf⟩ := f_rfd hf
      refine Go.getR 18 rfl dX6_findings_15 fl_X6_24 rfl (isT_lt ha0) (isT_sh ha0) qk15 ?_
      refine Go.iload_n 1 19 rfl dX6_findings_18 rfl ?_
      obtain ⟨g19, hf⟩ := f_grd hf
      refine Go.iald 20 rfl dX6_findings_19 (isT_lt hk15) (isT_sh hk15) g19 ?_
      exact Go.ir rfl dX6_findings_20 hf
    · replace hf := f_el hf hc
      refine Go.iconst (-1 : Int32) 11 rfl dX6_findings_10 ci_m1 ?_
      refine Go.goto 20 dX6_findings_11 rfl ?_
      exact Go.ir rfl dX6_findings_20 hf
