/-! written by program: X7_may X7_sure X7_test X7_odds X7_worlds X7_never X7_manyFit X7_parts X7_isOne -/
theorem dX7_may_0 : decode cX7_may 0 = .ok (.aload_n 0, 1) := by decide +kernel
theorem dX7_may_1 : decode cX7_may 1 = .ok (.iload_n 1, 1) := by decide +kernel
theorem dX7_may_2 : decode cX7_may 2 = .ok (.invokevirtual 129, 3) := by decide +kernel
theorem dX7_may_5 : decode cX7_may 5 = .ok (.ifCond .ne 5, 3) := by decide +kernel
theorem dX7_may_8 : decode cX7_may 8 = .ok (.iconst (-1), 1) := by decide +kernel
theorem dX7_may_9 : decode cX7_may 9 = .ok (.ireturn, 1) := by decide +kernel
theorem dX7_may_10 : decode cX7_may 10 = .ok (.aload_n 0, 1) := by decide +kernel
theorem dX7_may_11 : decode cX7_may 11 = .ok (.iconst 0, 1) := by decide +kernel
theorem dX7_may_12 : decode cX7_may 12 = .ok (.invokevirtual 181, 3) := by decide +kernel
theorem dX7_may_15 : decode cX7_may 15 = .ok (.iconst 0, 1) := by decide +kernel
theorem dX7_may_16 : decode cX7_may 16 = .ok (.istore_n 2, 1) := by decide +kernel
theorem dX7_may_17 : decode cX7_may 17 = .ok (.iconst 0, 1) := by decide +kernel
theorem dX7_may_18 : decode cX7_may 18 = .ok (.istore_n 3, 1) := by decide +kernel
theorem dX7_may_19 : decode cX7_may 19 = .ok (.iload_n 3, 1) := by decide +kernel
theorem dX7_may_20 : decode cX7_may 20 = .ok (.aload_n 0, 1) := by decide +kernel
theorem dX7_may_21 : decode cX7_may 21 = .ok (.getfield 22, 3) := by decide +kernel
theorem dX7_may_24 : decode cX7_may 24 = .ok (.iconst 1, 1) := by decide +kernel
theorem dX7_may_25 : decode cX7_may 25 = .ok (.iaload, 1) := by decide +kernel
theorem dX7_may_26 : decode cX7_may 26 = .ok (.if_icmp .ge 33, 3) := by decide +kernel
theorem dX7_may_29 : decode cX7_may 29 = .ok (.iload_n 2, 1) := by decide +kernel
theorem dX7_may_30 : decode cX7_may 30 = .ok (.aload_n 0, 1) := by decide +kernel
theorem dX7_may_31 : decode cX7_may 31 = .ok (.getfield 48, 3) := by decide +kernel
theorem dX7_may_34 : decode cX7_may 34 = .ok (.bipush 7, 2) := by decide +kernel
theorem dX7_may_36 : decode cX7_may 36 = .ok (.iload_n 3, 1) := by decide +kernel
theorem dX7_may_37 : decode cX7_may 37 = .ok (.imul, 1) := by decide +kernel
theorem dX7_may_38 : decode cX7_may 38 = .ok (.iload_n 1, 1) := by decide +kernel
theorem dX7_may_39 : decode cX7_may 39 = .ok (.iadd, 1) := by decide +kernel
theorem dX7_may_40 : decode cX7_may 40 = .ok (.iaload, 1) := by decide +kernel
theorem dX7_may_41 : decode cX7_may 41 = .ok (.ifCond .le 9, 3) := by decide +kernel
theorem dX7_may_44 : decode cX7_may 44 = .ok (.iconst 1, 1) := by decide +kernel
theorem dX7_may_45 : decode cX7_may 45 = .ok (.iload_n 3, 1) := by decide +kernel
theorem dX7_may_46 : decode cX7_may 46 = .ok (.ishl, 1) := by decide +kernel
theorem dX7_may_47 : decode cX7_may 47 = .ok (.goto 4, 3) := by decide +kernel
theorem dX7_may_50 : decode cX7_may 50 = .ok (.iconst 0, 1) := by decide +kernel
theorem dX7_may_51 : decode cX7_may 51 = .ok (.ior, 1) := by decide +kernel
theorem dX7_may_52 : decode cX7_may 52 = .ok (.istore_n 2, 1) := by decide +kernel
theorem dX7_may_53 : decode cX7_may 53 = .ok (.iinc 3 1, 3) := by decide +kernel
theorem dX7_may_56 : decode cX7_may 56 = .ok (.goto (-37), 3) := by decide +kernel
theorem dX7_may_59 : decode cX7_may 59 = .ok (.iload_n 2, 1) := by decide +kernel
theorem dX7_may_60 : decode cX7_may 60 = .ok (.ireturn, 1) := by decide +kernel
def F_X7_may_L19 (a0 : Nat) (a1 : Int32) (S12 : aSt) (K59 : Int32 → Option (Int32 × aSt)) : Nat → Int32 → Int32 → Option (Int32 × aSt)
  | 0, _, _ => none
  | fu + 1, l19_2, l19_3 =>
    rfd (S12.2.2 a0 4) 7 fun k21 =>
    grd (inb (1 : Int32) (SH k21).2) <|
    if (S12.1 k21 (1 : Int32).toNatClampNeg) ≤ l19_3 then (K59 l19_2) else
    rfd (S12.2.2 a0 16) 7 fun k31 =>
    grd (inb (((7 : Int32) * l19_3) + a1) (SH k31).2) <|
    jn (fun (j51s1 : Int32) => (nm (l19_2 ||| j51s1) fun v52 =>
    F_X7_may_L19 a0 a1 S12 K59 fu v52 (l19_3 + (1 : Int32)) : Option (Int32 × aSt))) fun K51 =>
    if (S12.1 k31 (((7 : Int32) * l19_3) + a1).toNatClampNeg) ≤ 0 then (K51 (0 : Int32)) else
    K51 ((1 : Int32) <<< (l19_3 &&& 31))
def F_X7_may (n : Nat) (S : aSt) (a0 : Nat) (a1 : Int32) : Option (Int32 × aSt) :=
(F_X7_isCard n S a0 a1).bind fun r2 =>
if r2 = 0 then (some ((-1 : Int32), S)) else
(F_X7_layMatchings n S a0 (0 : Int32)).bind fun S12 =>
jn (fun (x59_2 : Int32) => (some (x59_2, S12) : Option (Int32 × aSt))) fun K59 =>
F_X7_may_L19 a0 a1 S12 K59 n (0 : Int32) (0 : Int32)
set_option maxHeartbeats 4000000 in
set_option maxRecDepth 100000 in
theorem C_X7_may (G : aG) (l : Launch) (n : Nat) (S : aSt) (a0 : Nat) (a1 : Int32) (r : Int32) (Sr : aSt) (ha0 : isT a0 6 = true) (hf : F_X7_may n S a0 a1 = some (r, Sr)) : Ctr G l yX7_may mX7_may (rmM 6) 97 97 S [.ref a0, .int a1] (some (.int r)) Sr := by
  refine Ctr.of (by decide) rfl rfl (Nat.le_of_ble_eq_true rfl) [(0, .ref a0), (1, .int a1)] rfl ?_
  unfold F_X7_may at hf
  refine Go.aload_n 0 1 rfl dX7_may_0 rfl ?_
  refine Go.iload_n 1 2 rfl dX7_may_1 rfl ?_
  obtain ⟨r2, er2, hf⟩ := f_bnd hf
  refine Go.cV 5 [.int a1] [] (C_X7_isCard G l n S a0 a1 r2 ha0 er2) rfl dX7_may_2 cv_X7_129 ha0 (by decide) (by decide) rfl (Nat.le_of_ble_eq_true rfl) ?_
  refine Go.if_ne 10 8 rfl dX7_may_5 rfl (fun hc => ?_) (fun hc => ?_)
  · replace hf := f_el hf hc
    refine Go.aload_n 0 11 rfl dX7_may_10 rfl ?_
    refine Go.iconst (0 : Int32) 12 rfl dX7_may_11 ci_0 ?_
    obtain ⟨S12, eS12, hf⟩ := f_bnd hf
    refine Go.cVv 15 [.int (0 : Int32)] [] (C_X7_layMatchings G l n S a0 (0 : Int32) S12 ha0 eS12) rfl dX7_may_12 cv_X7_181 ha0 (by decide) (by decide) rfl (Nat.le_of_ble_eq_true rfl) ?_
    refine Go.iconst (0 : Int32) 16 rfl dX7_may_15 ci_0 ?_
    refine Go.istore_n 17 [(2, .int (0 : Int32)), (0, .ref a0), (1, .int a1)] rfl dX7_may_16 (by decide) rfl ?_
    refine Go.iconst (0 : Int32) 18 rfl dX7_may_17 ci_0 ?_
    refine Go.istore_n 19 [(3, .int (0 : Int32)), (2, .int (0 : Int32)), (0, .ref a0), (1, .int a1)] rfl dX7_may_18 (by decide) rfl ?_
    obtain ⟨K59, eK59, hf⟩ := f_jn hf
    have J59 : ∀ (x59_2 : Int32), K59 x59_2 = some (r, Sr) → GoM G l 6 (TmR G (some (.int r)) 97 Sr 0 0) mX7_may 59 [(2, .int x59_2)] [] S12 := by
      intro x59_2 hf
      rw [eK59] at hf
      refine Go.iload_n 0 60 rfl dX7_may_59 rfl ?_
      exact Go.irS rfl dX7_may_60 hf
    clear eK59
    have L19 : ∀ (fu : Nat) (l19_2 : Int32) (l19_3 : Int32), F_X7_may_L19 a0 a1 S12 K59 fu l19_2 l19_3 = some (r, Sr) → GoM G l 6 (TmR G (some (.int r)) 97 Sr 0 0) mX7_may 19 [(0, .ref a0), (1, .int a1), (2, .int l19_2), (3, .int l19_3)] [] S12 := by
      intro fu
      induction fu with
      | zero => intro l19_2 l19_3 hf; rw [F_X7_may_L19] at hf; cases hf
      | succ fu ih =>
        intro l19_2 l19_3 hf
        rw [F_X7_may_L19] at hf
        refine Go.iload_n 3 20 rfl dX7_may_19 rfl ?_
        refine Go.aload_n 0 21 rfl dX7_may_20 rfl ?_
        obtain ⟨k21, qk21, hk21, hf⟩ := f_rfd hf
        refine Go.getR 24 rfl dX7_may_21 fl_X7_22 rfl (isT_lt ha0) (isT_sh ha0) qk21 ?_
        refine Go.iconst (1 : Int32) 25 rfl dX7_may_24 ci_1 ?_
        obtain ⟨g25, hf⟩ := f_grd hf
        refine Go.iald 26 rfl dX7_may_25 (isT_lt hk21) (isT_sh hk21) g25 ?_
        refine Go.icmp_ge 59 29 rfl dX7_may_26 rfl (fun hc => ?_) (fun hc => ?_)
        · replace hf := f_if hf hc
          exact Go.sub [2] [(2, .int l19_2)] rfl (J59 l19_2 hf)
        · replace hf := f_el hf hc
          refine Go.iload_n 2 30 rfl dX7_may_29 rfl ?_
          refine Go.aload_n 0 31 rfl dX7_may_30 rfl ?_
          obtain ⟨k31, qk31, hk31, hf⟩ := f_rfd hf
          refine Go.getR 34 rfl dX7_may_31 fl_X7_48 rfl (isT_lt ha0) (isT_sh ha0) qk31 ?_
          refine Go.bipush (7 : Int32) 36 rfl dX7_may_34 cb_7 ?_
          refine Go.iload_n 3 37 rfl dX7_may_36 rfl ?_
          refine Go.imul 38 rfl dX7_may_37 ?_
          refine Go.iload_n 1 39 rfl dX7_may_38 rfl ?_
          refine Go.iadd 40 rfl dX7_may_39 ?_
          obtain ⟨g40, hf⟩ := f_grd hf
          refine Go.iald 41 rfl dX7_may_40 (isT_lt hk31) (isT_sh hk31) g40 ?_
          obtain ⟨K51, eK51, hf⟩ := f_jn hf
          have J51 : ∀ (j51s1 : Int32), K51 j51s1 = some (r, Sr) → GoM G l 6 (TmR G (some (.int r)) 97 Sr 0 0) mX7_may 51 [(0, .ref a0), (1, .int a1), (3, .int l19_3)] [.int j51s1, .int l19_2] S12 := by
            intro j51s1 hf
            rw [eK51] at hf
            refine Go.ior 52 rfl dX7_may_51 ?_
            obtain ⟨v52, ev52, hf⟩ := f_nm hf
            refine Go.topi v52 ev52 ?_
            refine Go.istore_n 53 [(2, .int v52), (0, .ref a0), (1, .int a1), (3, .int l19_3)] rfl dX7_may_52 (by decide) rfl ?_
            refine Go.inc 3 56 (1 : Int32) [(3, .int (l19_3 + (1 : Int32))), (2, .int v52), (0, .ref a0), (1, .int a1)] rfl dX7_may_53 rfl ci_1 (by decide) rfl ?_
            refine Go.goto 19 dX7_may_56 rfl ?_
            exact Go.sub [2, 3, 1, 0] [(0, .ref a0), (1, .int a1), (2, .int v52), (3, .int (l19_3 + (1 : Int32)))] rfl (ih v52 (l19_3 + (1 : Int32)) hf)
          clear eK51
          refine Go.if_le 50 44 rfl dX7_may_41 rfl (fun hc => ?_) (fun hc => ?_)
          · replace hf := f_if hf hc
            refine Go.iconst (0 : Int32) 51 rfl dX7_may_50 ci_0 ?_
            exact Go.sub [0, 1, 3] [(0, .ref a0), (1, .int a1), (3, .int l19_3)] rfl (J51 (0 : Int32) hf)
          · replace hf := f_el hf hc
            refine Go.iconst (1 : Int32) 45 rfl dX7_may_44 ci_1 ?_
            refine Go.iload_n 3 46 rfl dX7_may_45 rfl ?_
            refine Go.ishl 47 rfl dX7_may_46 ?_
            refine Go.goto 51 dX7_may_47 rfl ?_
            exact Go.sub [0, 1, 3] [(0, .ref a0), (1, .int a1), (3, .int l19_3)] rfl (J51 ((1 : Int32) <<< (l19_3 &&& 31)) hf)
    exact Go.sub [2, 3, 1, 0] [(0, .ref a0), (1, .int a1), (2, .int (0 : Int32)), (3, .int (0 : Int32))] rfl (L19 n (0 : Int32) (0 : Int32) hf)
  · replace hf := f_if hf hc
    refine Go.iconst (-1 : Int32) 9 rfl dX7_may_8 ci_m1 ?_
    exact Go.irS rfl dX7_may_9 hf
theorem dX7_sure_0 : decode cX7_sure 0 = .ok (.aload_n 0, 1) := by decide +kernel
theorem dX7_sure_1 : decode cX7_sure 1 = .ok (.iload_n 1, 1) := by decide +kernel
theorem dX7_sure_2 : decode cX7_sure 2 = .ok (.invokevirtual 136, 3) := by decide +kernel
theorem dX7_sure_5 : decode cX7_sure 5 = .ok (.ifCond .ne 5, 3) := by decide +kernel
theorem dX7_sure_8 : decode cX7_sure 8 = .ok (.iconst (-1), 1) := by decide +kernel
theorem dX7_sure_9 : decode cX7_sure 9 = .ok (.ireturn, 1) := by decide +kernel
theorem dX7_sure_10 : decode cX7_sure 10 = .ok (.aload_n 0, 1) := by decide +kernel
theorem dX7_sure_11 : decode cX7_sure 11 = .ok (.iconst 0, 1) := by decide +kernel
theorem dX7_sure_12 : decode cX7_sure 12 = .ok (.invokevirtual 181, 3) := by decide +kernel
theorem dX7_sure_15 : decode cX7_sure 15 = .ok (.bipush (-9), 2) := by decide +kernel
theorem dX7_sure_17 : decode cX7_sure 17 = .ok (.istore_n 2, 1) := by decide +kernel
theorem dX7_sure_18 : decode cX7_sure 18 = .ok (.iconst 0, 1) := by decide +kernel
theorem dX7_sure_19 : decode cX7_sure 19 = .ok (.istore_n 3, 1) := by decide +kernel
theorem dX7_sure_20 : decode cX7_sure 20 = .ok (.iload_n 3, 1) := by decide +kernel
theorem dX7_sure_21 : decode cX7_sure 21 = .ok (.aload_n 0, 1) := by decide +kernel
theorem dX7_sure_22 : decode cX7_sure 22 = .ok (.getfield 22, 3) := by decide +kernel
theorem dX7_sure_25 : decode cX7_sure 25 = .ok (.iconst 0, 1) := by decide +kernel
theorem dX7_sure_26 : decode cX7_sure 26 = .ok (.iaload, 1) := by decide +kernel
theorem dX7_sure_27 : decode cX7_sure 27 = .ok (.if_icmp .ge 33, 3) := by decide +kernel
theorem dX7_sure_30 : decode cX7_sure 30 = .ok (.aload_n 0, 1) := by decide +kernel
theorem dX7_sure_31 : decode cX7_sure 31 = .ok (.getfield 48, 3) := by decide +kernel
theorem dX7_sure_34 : decode cX7_sure 34 = .ok (.bipush 7, 2) := by decide +kernel
theorem dX7_sure_36 : decode cX7_sure 36 = .ok (.iload_n 1, 1) := by decide +kernel
theorem dX7_sure_37 : decode cX7_sure 37 = .ok (.imul, 1) := by decide +kernel
theorem dX7_sure_38 : decode cX7_sure 38 = .ok (.iload_n 3, 1) := by decide +kernel
theorem dX7_sure_39 : decode cX7_sure 39 = .ok (.iadd, 1) := by decide +kernel
theorem dX7_sure_40 : decode cX7_sure 40 = .ok (.iaload, 1) := by decide +kernel
theorem dX7_sure_41 : decode cX7_sure 41 = .ok (.aload_n 0, 1) := by decide +kernel
theorem dX7_sure_42 : decode cX7_sure 42 = .ok (.getfield 175, 3) := by decide +kernel
theorem dX7_sure_45 : decode cX7_sure 45 = .ok (.if_icmp .ne 7, 3) := by decide +kernel
theorem dX7_sure_48 : decode cX7_sure 48 = .ok (.iload_n 3, 1) := by decide +kernel
theorem dX7_sure_49 : decode cX7_sure 49 = .ok (.goto 4, 3) := by decide +kernel
theorem dX7_sure_52 : decode cX7_sure 52 = .ok (.iload_n 2, 1) := by decide +kernel
theorem dX7_sure_53 : decode cX7_sure 53 = .ok (.istore_n 2, 1) := by decide +kernel
theorem dX7_sure_54 : decode cX7_sure 54 = .ok (.iinc 3 1, 3) := by decide +kernel
theorem dX7_sure_57 : decode cX7_sure 57 = .ok (.goto (-37), 3) := by decide +kernel
theorem dX7_sure_60 : decode cX7_sure 60 = .ok (.iload_n 2, 1) := by decide +kernel
theorem dX7_sure_61 : decode cX7_sure 61 = .ok (.ireturn, 1) := by decide +kernel
def F_X7_sure_L20 (a0 : Nat) (a1 : Int32) (S12 : aSt) (K60 : Int32 → Option (Int32 × aSt)) : Nat → Int32 → Int32 → Option (Int32 × aSt)
  | 0, _, _ => none
  | fu + 1, l20_2, l20_3 =>
    rfd (S12.2.2 a0 4) 7 fun k22 =>
    grd (inb (0 : Int32) (SH k22).2) <|
    if (S12.1 k22 (0 : Int32).toNatClampNeg) ≤ l20_3 then (K60 l20_2) else
    rfd (S12.2.2 a0 16) 7 fun k31 =>
    grd (inb (((7 : Int32) * a1) + l20_3) (SH k31).2) <|
    jn (fun (j53s0 : Int32) => (F_X7_sure_L20 a0 a1 S12 K60 fu j53s0 (l20_3 + (1 : Int32)) : Option (Int32 × aSt))) fun K53 =>
    if (S12.1 k31 (((7 : Int32) * a1) + l20_3).toNatClampNeg) = (S12.1 a0 17) then (K53 l20_3) else
    K53 l20_2
def F_X7_sure (n : Nat) (S : aSt) (a0 : Nat) (a1 : Int32) : Option (Int32 × aSt) :=
(F_X7_isQuestion n S a0 a1).bind fun r2 =>
if r2 = 0 then (some ((-1 : Int32), S)) else
(F_X7_layMatchings n S a0 (0 : Int32)).bind fun S12 =>
jn (fun (x60_2 : Int32) => (some (x60_2, S12) : Option (Int32 × aSt))) fun K60 =>
F_X7_sure_L20 a0 a1 S12 K60 n (-9 : Int32) (0 : Int32)
set_option maxHeartbeats 4000000 in
set_option maxRecDepth 100000 in
theorem C_X7_sure (G : aG) (l : Launch) (n : Nat) (S : aSt) (a0 : Nat) (a1 : Int32) (r : Int32) (Sr : aSt) (ha0 : isT a0 6 = true) (hf : F_X7_sure n S a0 a1 = some (r, Sr)) : Ctr G l yX7_sure mX7_sure (rmM 6) 97 97 S [.ref a0, .int a1] (some (.int r)) Sr := by
  refine Ctr.of (by decide) rfl rfl (Nat.le_of_ble_eq_true rfl) [(0, .ref a0), (1, .int a1)] rfl ?_
  unfold F_X7_sure at hf
  refine Go.aload_n 0 1 rfl dX7_sure_0 rfl ?_
  refine Go.iload_n 1 2 rfl dX7_sure_1 rfl ?_
  obtain ⟨r2, er2, hf⟩ := f_bnd hf
  refine Go.cV 5 [.int a1] [] (C_X7_isQuestion G l n S a0 a1 r2 ha0 er2) rfl dX7_sure_2 cv_X7_136 ha0 (by decide) (by decide) rfl (Nat.le_of_ble_eq_true rfl) ?_
  refine Go.if_ne 10 8 rfl dX7_sure_5 rfl (fun hc => ?_) (fun hc => ?_)
  · replace hf := f_el hf hc
    refine Go.aload_n 0 11 rfl dX7_sure_10 rfl ?_
    refine Go.iconst (0 : Int32) 12 rfl dX7_sure_11 ci_0 ?_
    obtain ⟨S12, eS12, hf⟩ := f_bnd hf
    refine Go.cVv 15 [.int (0 : Int32)] [] (C_X7_layMatchings G l n S a0 (0 : Int32) S12 ha0 eS12) rfl dX7_sure_12 cv_X7_181 ha0 (by decide) (by decide) rfl (Nat.le_of_ble_eq_true rfl) ?_
    refine Go.bipush (-9 : Int32) 17 rfl dX7_sure_15 cb_m9 ?_
    refine Go.istore_n 18 [(2, .int (-9 : Int32)), (0, .ref a0), (1, .int a1)] rfl dX7_sure_17 (by decide) rfl ?_
    refine Go.iconst (0 : Int32) 19 rfl dX7_sure_18 ci_0 ?_
    refine Go.istore_n 20 [(3, .int (0 : Int32)), (2, .int (-9 : Int32)), (0, .ref a0), (1, .int a1)] rfl dX7_sure_19 (by decide) rfl ?_
    obtain ⟨K60, eK60, hf⟩ := f_jn hf
    have J60 : ∀ (x60_2 : Int32), K60 x60_2 = some (r, Sr) → GoM G l 6 (TmR G (some (.int r)) 97 Sr 0 0) mX7_sure 60 [(2, .int x60_2)] [] S12 := by
      intro x60_2 hf
      rw [eK60] at hf
      refine Go.iload_n 0 61 rfl dX7_sure_60 rfl ?_
      exact Go.irS rfl dX7_sure_61 hf
    clear eK60
    have L20 : ∀ (fu : Nat) (l20_2 : Int32) (l20_3 : Int32), F_X7_sure_L20 a0 a1 S12 K60 fu l20_2 l20_3 = some (r, Sr) → GoM G l 6 (TmR G (some (.int r)) 97 Sr 0 0) mX7_sure 20 [(0, .ref a0), (1, .int a1), (2, .int l20_2), (3, .int l20_3)] [] S12 := by
      intro fu
      induction fu with
      | zero => intro l20_2 l20_3 hf; rw [F_X7_sure_L20] at hf; cases hf
      | succ fu ih =>
        intro l20_2 l20_3 hf
        rw [F_X7_sure_L20] at hf
        refine Go.iload_n 3 21 rfl dX7_sure_20 rfl ?_
        refine Go.aload_n 0 22 rfl dX7_sure_21 rfl ?_
        obtain ⟨k22, qk22, hk22, hf⟩ := f_rfd hf
        refine Go.getR 25 rfl dX7_sure_22 fl_X7_22 rfl (isT_lt ha0) (isT_sh ha0) qk22 ?_
        refine Go.iconst (0 : Int32) 26 rfl dX7_sure_25 ci_0 ?_
        obtain ⟨g26, hf⟩ := f_grd hf
        refine Go.iald 27 rfl dX7_sure_26 (isT_lt hk22) (isT_sh hk22) g26 ?_
        refine Go.icmp_ge 60 30 rfl dX7_sure_27 rfl (fun hc => ?_) (fun hc => ?_)
        · replace hf := f_if hf hc
          exact Go.sub [2] [(2, .int l20_2)] rfl (J60 l20_2 hf)
        · replace hf := f_el hf hc
          refine Go.aload_n 0 31 rfl dX7_sure_30 rfl ?_
          obtain ⟨k31, qk31, hk31, hf⟩ := f_rfd hf
          refine Go.getR 34 rfl dX7_sure_31 fl_X7_48 rfl (isT_lt ha0) (isT_sh ha0) qk31 ?_
          refine Go.bipush (7 : Int32) 36 rfl dX7_sure_34 cb_7 ?_
          refine Go.iload_n 1 37 rfl dX7_sure_36 rfl ?_
          refine Go.imul 38 rfl dX7_sure_37 ?_
          refine Go.iload_n 3 39 rfl dX7_sure_38 rfl ?_
          refine Go.iadd 40 rfl dX7_sure_39 ?_
          obtain ⟨g40, hf⟩ := f_grd hf
          refine Go.iald 41 rfl dX7_sure_40 (isT_lt hk31) (isT_sh hk31) g40 ?_
          refine Go.aload_n 0 42 rfl dX7_sure_41 rfl ?_
          refine Go.getI 45 rfl dX7_sure_42 fl_X7_175 rfl (isT_lt ha0) (isT_sh ha0) ?_
          obtain ⟨K53, eK53, hf⟩ := f_jn hf
          have J53 : ∀ (j53s0 : Int32), K53 j53s0 = some (r, Sr) → GoM G l 6 (TmR G (some (.int r)) 97 Sr 0 0) mX7_sure 53 [(0, .ref a0), (1, .int a1), (3, .int l20_3)] [.int j53s0] S12 := by
            intro j53s0 hf
            rw [eK53] at hf
            refine Go.istore_n 54 [(2, .int j53s0), (0, .ref a0), (1, .int a1), (3, .int l20_3)] rfl dX7_sure_53 (by decide) rfl ?_
            refine Go.inc 3 57 (1 : Int32) [(3, .int (l20_3 + (1 : Int32))), (2, .int j53s0), (0, .ref a0), (1, .int a1)] rfl dX7_sure_54 rfl ci_1 (by decide) rfl ?_
            refine Go.goto 20 dX7_sure_57 rfl ?_
            exact Go.sub [2, 3, 1, 0] [(0, .ref a0), (1, .int a1), (2, .int j53s0), (3, .int (l20_3 + (1 : Int32)))] rfl (ih j53s0 (l20_3 + (1 : Int32)) hf)
          clear eK53
          refine Go.icmp_ne 52 48 rfl dX7_sure_45 rfl (fun hc => ?_) (fun hc => ?_)
          · replace hf := f_el hf hc
            refine Go.iload_n 2 53 rfl dX7_sure_52 rfl ?_
            exact Go.sub [0, 1, 3] [(0, .ref a0), (1, .int a1), (3, .int l20_3)] rfl (J53 l20_2 hf)
          · replace hf := f_if hf hc
            refine Go.iload_n 3 49 rfl dX7_sure_48 rfl ?_
            refine Go.goto 53 dX7_sure_49 rfl ?_
            exact Go.sub [0, 1, 3] [(0, .ref a0), (1, .int a1), (3, .int l20_3)] rfl (J53 l20_3 hf)
    exact Go.sub [2, 3, 1, 0] [(0, .ref a0), (1, .int a1), (2, .int (-9 : Int32)), (3, .int (0 : Int32))] rfl (L20 n (-9 : Int32) (0 : Int32) hf)
  · replace hf := f_if hf hc
    refine Go.iconst (-1 : Int32) 9 rfl dX7_sure_8 ci_m1 ?_
    exact Go.irS rfl dX7_sure_9 hf
theorem dX7_test_0 : decode cX7_test 0 = .ok (.aload_n 0, 1) := by decide +kernel
theorem dX7_test_1 : decode cX7_test 1 = .ok (.iconst 0, 1) := by decide +kernel
theorem dX7_test_2 : decode cX7_test 2 = .ok (.invokevirtual 181, 3) := by decide +kernel
theorem dX7_test_5 : decode cX7_test 5 = .ok (.bipush (-9), 2) := by decide +kernel
theorem dX7_test_7 : decode cX7_test 7 = .ok (.istore_n 1, 1) := by decide +kernel
theorem dX7_test_8 : decode cX7_test 8 = .ok (.iconst 0, 1) := by decide +kernel
theorem dX7_test_9 : decode cX7_test 9 = .ok (.istore_n 2, 1) := by decide +kernel
theorem dX7_test_10 : decode cX7_test 10 = .ok (.iconst 0, 1) := by decide +kernel
theorem dX7_test_11 : decode cX7_test 11 = .ok (.istore_n 3, 1) := by decide +kernel
theorem dX7_test_12 : decode cX7_test 12 = .ok (.iload_n 3, 1) := by decide +kernel
theorem dX7_test_13 : decode cX7_test 13 = .ok (.bipush 49, 2) := by decide +kernel
theorem dX7_test_15 : decode cX7_test 15 = .ok (.if_icmp .ge 96, 3) := by decide +kernel
theorem dX7_test_18 : decode cX7_test 18 = .ok (.iconst 2, 1) := by decide +kernel
theorem dX7_test_19 : decode cX7_test 19 = .ok (.aload_n 0, 1) := by decide +kernel
theorem dX7_test_20 : decode cX7_test 20 = .ok (.getfield 48, 3) := by decide +kernel
theorem dX7_test_23 : decode cX7_test 23 = .ok (.iload_n 3, 1) := by decide +kernel
theorem dX7_test_24 : decode cX7_test 24 = .ok (.iaload, 1) := by decide +kernel
theorem dX7_test_25 : decode cX7_test 25 = .ok (.imul, 1) := by decide +kernel
theorem dX7_test_26 : decode cX7_test 26 = .ok (.aload_n 0, 1) := by decide +kernel
theorem dX7_test_27 : decode cX7_test 27 = .ok (.getfield 175, 3) := by decide +kernel
theorem dX7_test_30 : decode cX7_test 30 = .ok (.if_icmp .le 12, 3) := by decide +kernel
theorem dX7_test_33 : decode cX7_test 33 = .ok (.aload_n 0, 1) := by decide +kernel
theorem dX7_test_34 : decode cX7_test 34 = .ok (.getfield 48, 3) := by decide +kernel
theorem dX7_test_37 : decode cX7_test 37 = .ok (.iload_n 3, 1) := by decide +kernel
theorem dX7_test_38 : decode cX7_test 38 = .ok (.iaload, 1) := by decide +kernel
theorem dX7_test_39 : decode cX7_test 39 = .ok (.goto 14, 3) := by decide +kernel
theorem dX7_test_42 : decode cX7_test 42 = .ok (.aload_n 0, 1) := by decide +kernel
theorem dX7_test_43 : decode cX7_test 43 = .ok (.getfield 175, 3) := by decide +kernel
theorem dX7_test_46 : decode cX7_test 46 = .ok (.aload_n 0, 1) := by decide +kernel
theorem dX7_test_47 : decode cX7_test 47 = .ok (.getfield 48, 3) := by decide +kernel
theorem dX7_test_50 : decode cX7_test 50 = .ok (.iload_n 3, 1) := by decide +kernel
theorem dX7_test_51 : decode cX7_test 51 = .ok (.iaload, 1) := by decide +kernel
theorem dX7_test_52 : decode cX7_test 52 = .ok (.isub, 1) := by decide +kernel
theorem dX7_test_53 : decode cX7_test 53 = .ok (.istore 4, 2) := by decide +kernel
theorem dX7_test_55 : decode cX7_test 55 = .ok (.aload_n 0, 1) := by decide +kernel
theorem dX7_test_56 : decode cX7_test 56 = .ok (.getfield 48, 3) := by decide +kernel
theorem dX7_test_59 : decode cX7_test 59 = .ok (.iload_n 3, 1) := by decide +kernel
theorem dX7_test_60 : decode cX7_test 60 = .ok (.iaload, 1) := by decide +kernel
theorem dX7_test_61 : decode cX7_test 61 = .ok (.ifCond .le 44, 3) := by decide +kernel
theorem dX7_test_64 : decode cX7_test 64 = .ok (.aload_n 0, 1) := by decide +kernel
theorem dX7_test_65 : decode cX7_test 65 = .ok (.getfield 48, 3) := by decide +kernel
theorem dX7_test_68 : decode cX7_test 68 = .ok (.iload_n 3, 1) := by decide +kernel
theorem dX7_test_69 : decode cX7_test 69 = .ok (.iaload, 1) := by decide +kernel
theorem dX7_test_70 : decode cX7_test 70 = .ok (.aload_n 0, 1) := by decide +kernel
theorem dX7_test_71 : decode cX7_test 71 = .ok (.getfield 175, 3) := by decide +kernel
theorem dX7_test_74 : decode cX7_test 74 = .ok (.if_icmp .ge 31, 3) := by decide +kernel
theorem dX7_test_77 : decode cX7_test 77 = .ok (.iload_n 1, 1) := by decide +kernel
theorem dX7_test_78 : decode cX7_test 78 = .ok (.bipush (-9), 2) := by decide +kernel
theorem dX7_test_80 : decode cX7_test 80 = .ok (.if_icmp .eq 9, 3) := by decide +kernel
theorem dX7_test_83 : decode cX7_test 83 = .ok (.iload 4, 2) := by decide +kernel
theorem dX7_test_85 : decode cX7_test 85 = .ok (.iload_n 2, 1) := by decide +kernel
theorem dX7_test_86 : decode cX7_test 86 = .ok (.if_icmp .ge 19, 3) := by decide +kernel
theorem dX7_test_89 : decode cX7_test 89 = .ok (.bipush 10, 2) := by decide +kernel
theorem dX7_test_91 : decode cX7_test 91 = .ok (.iload_n 3, 1) := by decide +kernel
theorem dX7_test_92 : decode cX7_test 92 = .ok (.bipush 7, 2) := by decide +kernel
theorem dX7_test_94 : decode cX7_test 94 = .ok (.idiv, 1) := by decide +kernel
theorem dX7_test_95 : decode cX7_test 95 = .ok (.imul, 1) := by decide +kernel
theorem dX7_test_96 : decode cX7_test 96 = .ok (.iload_n 3, 1) := by decide +kernel
theorem dX7_test_97 : decode cX7_test 97 = .ok (.bipush 7, 2) := by decide +kernel
theorem dX7_test_99 : decode cX7_test 99 = .ok (.irem, 1) := by decide +kernel
theorem dX7_test_100 : decode cX7_test 100 = .ok (.iadd, 1) := by decide +kernel
theorem dX7_test_101 : decode cX7_test 101 = .ok (.istore_n 1, 1) := by decide +kernel
theorem dX7_test_102 : decode cX7_test 102 = .ok (.iload 4, 2) := by decide +kernel
theorem dX7_test_104 : decode cX7_test 104 = .ok (.istore_n 2, 1) := by decide +kernel
theorem dX7_test_105 : decode cX7_test 105 = .ok (.iinc 3 1, 3) := by decide +kernel
theorem dX7_test_108 : decode cX7_test 108 = .ok (.goto (-96), 3) := by decide +kernel
theorem dX7_test_111 : decode cX7_test 111 = .ok (.iload_n 1, 1) := by decide +kernel
theorem dX7_test_112 : decode cX7_test 112 = .ok (.bipush (-9), 2) := by decide +kernel
theorem dX7_test_114 : decode cX7_test 114 = .ok (.if_icmp .ne 7, 3) := by decide +kernel
theorem dX7_test_117 : decode cX7_test 117 = .ok (.iconst 0, 1) := by decide +kernel
theorem dX7_test_118 : decode cX7_test 118 = .ok (.goto 8, 3) := by decide +kernel
theorem dX7_test_121 : decode cX7_test 121 = .ok (.aload_n 0, 1) := by decide +kernel
theorem dX7_test_122 : decode cX7_test 122 = .ok (.iload_n 2, 1) := by decide +kernel
theorem dX7_test_123 : decode cX7_test 123 = .ok (.invokevirtual 80, 3) := by decide +kernel
theorem dX7_test_126 : decode cX7_test 126 = .ok (.istore_n 3, 1) := by decide +kernel
theorem dX7_test_127 : decode cX7_test 127 = .ok (.iload_n 1, 1) := by decide +kernel
theorem dX7_test_128 : decode cX7_test 128 = .ok (.ireturn, 1) := by decide +kernel
def F_X7_test_L12 (a0 : Nat) (S2 : aSt) (K111 : Int32 → Int32 → Option (Int32 × aSt)) : Nat → Int32 → Int32 → Int32 → Option (Int32 × aSt)
  | 0, _, _, _ => none
  | fu + 1, l12_1, l12_2, l12_3 =>
    if (49 : Int32) ≤ l12_3 then (K111 l12_1 l12_2) else
    rfd (S2.2.2 a0 16) 7 fun k20 =>
    grd (inb l12_3 (SH k20).2) <|
    jn (fun (j53s0 : Int32) => (grd (inb l12_3 (SH k20).2) <|
    jn (fun (j105_1 : Int32) (j105_2 : Int32) => (F_X7_test_L12 a0 S2 K111 fu j105_1 j105_2 (l12_3 + (1 : Int32)) : Option (Int32 × aSt))) fun K105 =>
    if (S2.1 k20 l12_3.toNatClampNeg) ≤ 0 then (K105 l12_1 l12_2) else
    grd (inb l12_3 (SH k20).2) <|
    if (S2.1 a0 17) ≤ (S2.1 k20 l12_3.toNatClampNeg) then (K105 l12_1 l12_2) else
    jn ((nm (((10 : Int32) * (l12_3 / (7 : Int32))) + (l12_3 - l12_3 / (7 : Int32) * (7 : Int32))) fun v101 =>
    K105 v101 j53s0 : Option (Int32 × aSt))) fun K89 =>
    if l12_1 = (-9 : Int32) then (K89) else
    if l12_2 ≤ j53s0 then (K105 l12_1 l12_2) else
    K89 : Option (Int32 × aSt))) fun K53 =>
    if ((2 : Int32) * (S2.1 k20 l12_3.toNatClampNeg)) ≤ (S2.1 a0 17) then (grd (inb l12_3 (SH k20).2) <|
    K53 ((S2.1 a0 17) - (S2.1 k20 l12_3.toNatClampNeg))) else
    grd (inb l12_3 (SH k20).2) <|
    K53 (S2.1 k20 l12_3.toNatClampNeg)
def F_X7_test (n : Nat) (S : aSt) (a0 : Nat) : Option (Int32 × aSt) :=
(F_X7_layMatchings n S a0 (0 : Int32)).bind fun S2 =>
jn (fun (x111_1 : Int32) (x111_2 : Int32) => (jn (fun (j126s0 : Int32) (j126S : aSt) => (some (x111_1, j126S) : Option (Int32 × aSt))) fun K126 =>
if x111_1 = (-9 : Int32) then (K126 (0 : Int32) S2) else
bn2 (F_X7_tell n S2 a0 x111_2) fun r123 S123 =>
K126 r123 S123 : Option (Int32 × aSt))) fun K111 =>
F_X7_test_L12 a0 S2 K111 n (-9 : Int32) (0 : Int32) (0 : Int32)
set_option maxHeartbeats 4000000 in
set_option maxRecDepth 100000 in
theorem C_X7_test (G : aG) (l : Launch) (n : Nat) (S : aSt) (a0 : Nat) (r : Int32) (Sr : aSt) (ha0 : isT a0 6 = true) (hf : F_X7_test n S a0 = some (r, Sr)) : Ctr G l yX7_test mX7_test (rmM 6) 97 97 S [.ref a0] (some (.int r)) Sr := by
  refine Ctr.of (by decide) rfl rfl (Nat.le_of_ble_eq_true rfl) [(0, .ref a0)] rfl ?_
  unfold F_X7_test at hf
  refine Go.aload_n 0 1 rfl dX7_test_0 rfl ?_
  refine Go.iconst (0 : Int32) 2 rfl dX7_test_1 ci_0 ?_
  obtain ⟨S2, eS2, hf⟩ := f_bnd hf
  refine Go.cVv 5 [.int (0 : Int32)] [] (C_X7_layMatchings G l n S a0 (0 : Int32) S2 ha0 eS2) rfl dX7_test_2 cv_X7_181 ha0 (by decide) (by decide) rfl (Nat.le_of_ble_eq_true rfl) ?_
  refine Go.bipush (-9 : Int32) 7 rfl dX7_test_5 cb_m9 ?_
  refine Go.istore_n 8 [(1, .int (-9 : Int32)), (0, .ref a0)] rfl dX7_test_7 (by decide) rfl ?_
  refine Go.iconst (0 : Int32) 9 rfl dX7_test_8 ci_0 ?_
  refine Go.istore_n 10 [(2, .int (0 : Int32)), (1, .int (-9 : Int32)), (0, .ref a0)] rfl dX7_test_9 (by decide) rfl ?_
  refine Go.iconst (0 : Int32) 11 rfl dX7_test_10 ci_0 ?_
  refine Go.istore_n 12 [(3, .int (0 : Int32)), (2, .int (0 : Int32)), (1, .int (-9 : Int32)), (0, .ref a0)] rfl dX7_test_11 (by decide) rfl ?_
  obtain ⟨K111, eK111, hf⟩ := f_jn hf
  have J111 : ∀ (x111_1 : Int32) (x111_2 : Int32), K111 x111_1 x111_2 = some (r, Sr) → GoM G l 6 (TmR G (some (.int r)) 97 Sr 0 0) mX7_test 111 [(0, .ref a0), (1, .int x111_1), (2, .int x111_2)] [] S2 := by
    intro x111_1 x111_2 hf
    rw [eK111] at hf
    refine Go.iload_n 1 112 rfl dX7_test_111 rfl ?_
    refine Go.bipush (-9 : Int32) 114 rfl dX7_test_112 cb_m9 ?_
    obtain ⟨K126, eK126, hf⟩ := f_jn hf
    have J126 : ∀ (j126s0 : Int32) (j126S : aSt), K126 j126s0 j126S = some (r, Sr) → GoM G l 6 (TmR G (some (.int r)) 97 Sr 0 0) mX7_test 126 [(1, .int x111_1)] [.int j126s0] j126S := by
      intro j126s0 j126S hf
      rw [eK126] at hf
      refine Go.istore_n 127 [(3, .int j126s0), (1, .int x111_1)] rfl dX7_test_126 (by decide) rfl ?_
      refine Go.iload_n 1 128 rfl dX7_test_127 rfl ?_
      exact Go.irS rfl dX7_test_128 hf
    clear eK126
    refine Go.icmp_ne 121 117 rfl dX7_test_114 rfl (fun hc => ?_) (fun hc => ?_)
    · replace hf := f_el hf hc
      refine Go.aload_n 0 122 rfl dX7_test_121 rfl ?_
      refine Go.iload_n 2 123 rfl dX7_test_122 rfl ?_
      obtain ⟨r123, S123, er123, hf⟩ := f_bn2 hf
      refine Go.cV 126 [.int x111_2] [] (C_X7_tell G l n S2 a0 x111_2 r123 S123 ha0 er123) rfl dX7_test_123 cv_X7_80 ha0 (by decide) (by decide) rfl (Nat.le_of_ble_eq_true rfl) ?_
      exact Go.sub [1] [(1, .int x111_1)] rfl (J126 r123 S123 hf)
    · replace hf := f_if hf hc
      refine Go.iconst (0 : Int32) 118 rfl dX7_test_117 ci_0 ?_
      refine Go.goto 126 dX7_test_118 rfl ?_
      exact Go.sub [1] [(1, .int x111_1)] rfl (J126 (0 : Int32) S2 hf)
  clear eK111
  have L12 : ∀ (fu : Nat) (l12_1 : Int32) (l12_2 : Int32) (l12_3 : Int32), F_X7_test_L12 a0 S2 K111 fu l12_1 l12_2 l12_3 = some (r, Sr) → GoM G l 6 (TmR G (some (.int r)) 97 Sr 0 0) mX7_test 12 [(0, .ref a0), (1, .int l12_1), (2, .int l12_2), (3, .int l12_3)] [] S2 := by
    intro fu
    induction fu with
    | zero => intro l12_1 l12_2 l12_3 hf; rw [F_X7_test_L12] at hf; cases hf
    | succ fu ih =>
      intro l12_1 l12_2 l12_3 hf
      rw [F_X7_test_L12] at hf
      refine Go.iload_n 3 13 rfl dX7_test_12 rfl ?_
      refine Go.bipush (49 : Int32) 15 rfl dX7_test_13 cb_49 ?_
      refine Go.icmp_ge 111 18 rfl dX7_test_15 rfl (fun hc => ?_) (fun hc => ?_)
      · replace hf := f_if hf hc
        exact Go.sub [0, 1, 2] [(0, .ref a0), (1, .int l12_1), (2, .int l12_2)] rfl (J111 l12_1 l12_2 hf)
      · replace hf := f_el hf hc
        refine Go.iconst (2 : Int32) 19 rfl dX7_test_18 ci_2 ?_
        refine Go.aload_n 0 20 rfl dX7_test_19 rfl ?_
        obtain ⟨k20, qk20, hk20, hf⟩ := f_rfd hf
        refine Go.getR 23 rfl dX7_test_20 fl_X7_48 rfl (isT_lt ha0) (isT_sh ha0) qk20 ?_
        refine Go.iload_n 3 24 rfl dX7_test_23 rfl ?_
        obtain ⟨g24, hf⟩ := f_grd hf
        refine Go.iald 25 rfl dX7_test_24 (isT_lt hk20) (isT_sh hk20) g24 ?_
        refine Go.imul 26 rfl dX7_test_25 ?_
        refine Go.aload_n 0 27 rfl dX7_test_26 rfl ?_
        refine Go.getI 30 rfl dX7_test_27 fl_X7_175 rfl (isT_lt ha0) (isT_sh ha0) ?_
        obtain ⟨K53, eK53, hf⟩ := f_jn hf
        have J53 : ∀ (j53s0 : Int32), K53 j53s0 = some (r, Sr) → GoM G l 6 (TmR G (some (.int r)) 97 Sr 0 0) mX7_test 53 [(0, .ref a0), (1, .int l12_1), (2, .int l12_2), (3, .int l12_3)] [.int j53s0] S2 := by
          intro j53s0 hf
          rw [eK53] at hf
          refine Go.istore 55 [(4, .int j53s0), (0, .ref a0), (1, .int l12_1), (2, .int l12_2), (3, .int l12_3)] rfl dX7_test_53 (by decide) rfl ?_
          refine Go.aload_n 1 56 rfl dX7_test_55 rfl ?_
          refine Go.getR 59 rfl dX7_test_56 fl_X7_48 rfl (isT_lt ha0) (isT_sh ha0) qk20 ?_
          refine Go.iload_n 4 60 rfl dX7_test_59 rfl ?_
          obtain ⟨g60, hf⟩ := f_grd hf
          refine Go.iald 61 rfl dX7_test_60 (isT_lt hk20) (isT_sh hk20) g60 ?_
          obtain ⟨K105, eK105, hf⟩ := f_jn hf
          have J105 : ∀ (j105_1 : Int32) (j105_2 : Int32), K105 j105_1 j105_2 = some (r, Sr) → GoM G l 6 (TmR G (some (.int r)) 97 Sr 0 0) mX7_test 105 [(0, .ref a0), (1, .int j105_1), (2, .int j105_2), (3, .int l12_3)] [] S2 := by
            intro j105_1 j105_2 hf
            rw [eK105] at hf
            refine Go.inc 3 108 (1 : Int32) [(3, .int (l12_3 + (1 : Int32))), (0, .ref a0), (1, .int j105_1), (2, .int j105_2)] rfl dX7_test_105 rfl ci_1 (by decide) rfl ?_
            refine Go.goto 12 dX7_test_108 rfl ?_
            exact Go.sub [1, 2, 3, 0] [(0, .ref a0), (1, .int j105_1), (2, .int j105_2), (3, .int (l12_3 + (1 : Int32)))] rfl (ih j105_1 j105_2 (l12_3 + (1 : Int32)) hf)
          clear eK105
          refine Go.if_le 105 64 rfl dX7_test_61 rfl (fun hc => ?_) (fun hc => ?_)
          · replace hf := f_if hf hc
            exact Go.sub [1, 2, 3, 4] [(0, .ref a0), (1, .int l12_1), (2, .int l12_2), (3, .int l12_3)] rfl (J105 l12_1 l12_2 hf)
          · replace hf := f_el hf hc
            refine Go.aload_n 1 65 rfl dX7_test_64 rfl ?_
            refine Go.getR 68 rfl dX7_test_65 fl_X7_48 rfl (isT_lt ha0) (isT_sh ha0) qk20 ?_
            refine Go.iload_n 4 69 rfl dX7_test_68 rfl ?_
            obtain ⟨g69, hf⟩ := f_grd hf
            refine Go.iald 70 rfl dX7_test_69 (isT_lt hk20) (isT_sh hk20) g69 ?_
            refine Go.aload_n 1 71 rfl dX7_test_70 rfl ?_
            refine Go.getI 74 rfl dX7_test_71 fl_X7_175 rfl (isT_lt ha0) (isT_sh ha0) ?_
            refine Go.icmp_ge 105 77 rfl dX7_test_74 rfl (fun hc => ?_) (fun hc => ?_)
            · replace hf := f_if hf hc
              exact Go.sub [1, 2, 3, 4] [(0, .ref a0), (1, .int l12_1), (2, .int l12_2), (3, .int l12_3)] rfl (J105 l12_1 l12_2 hf)
            · replace hf := f_el hf hc
              refine Go.iload_n 2 78 rfl dX7_test_77 rfl ?_
              refine Go.bipush (-9 : Int32) 80 rfl dX7_test_78 cb_m9 ?_
              obtain ⟨K89, eK89, hf⟩ := f_jn hf
              have J89 : K89 = some (r, Sr) → GoM G l 6 (TmR G (some (.int r)) 97 Sr 0 0) mX7_test 89 [(0, .ref a0), (3, .int l12_3), (4, .int j53s0)] [] S2 := by
                intro hf
                rw [eK89] at hf
                refine Go.bipush (10 : Int32) 91 rfl dX7_test_89 cb_10 ?_
                refine Go.iload_n 1 92 rfl dX7_test_91 rfl ?_
                refine Go.bipush (7 : Int32) 94 rfl dX7_test_92 cb_7 ?_
                refine Go.idiv 95 rfl dX7_test_94 (by decide) ?_
                refine Go.imul 96 rfl dX7_test_95 ?_
                refine Go.iload_n 1 97 rfl dX7_test_96 rfl ?_
                refine Go.bipush (7 : Int32) 99 rfl dX7_test_97 cb_7 ?_
                refine Go.irem 100 rfl dX7_test_99 (by decide) ?_
                refine Go.iadd 101 rfl dX7_test_100 ?_
                obtain ⟨v101, ev101, hf⟩ := f_nm hf
                refine Go.topi v101 ev101 ?_
                refine Go.istore_n 102 [(1, .int v101), (0, .ref a0), (3, .int l12_3), (4, .int j53s0)] rfl dX7_test_101 (by decide) rfl ?_
                refine Go.iload 3 104 rfl dX7_test_102 rfl ?_
                refine Go.istore_n 105 [(2, .int j53s0), (1, .int v101), (0, .ref a0), (3, .int l12_3), (4, .int j53s0)] rfl dX7_test_104 (by decide) rfl ?_
                exact Go.sub [2, 1, 0, 3] [(0, .ref a0), (1, .int v101), (2, .int j53s0), (3, .int l12_3)] rfl (J105 v101 j53s0 hf)
              clear eK89
              refine Go.icmp_eq 89 83 rfl dX7_test_80 rfl (fun hc => ?_) (fun hc => ?_)
              · replace hf := f_if hf hc
                exact Go.sub [1, 4, 0] [(0, .ref a0), (3, .int l12_3), (4, .int j53s0)] rfl (J89 hf)
              · replace hf := f_el hf hc
                refine Go.iload 0 85 rfl dX7_test_83 rfl ?_
                refine Go.iload_n 3 86 rfl dX7_test_85 rfl ?_
                refine Go.icmp_ge 105 89 rfl dX7_test_86 rfl (fun hc => ?_) (fun hc => ?_)
                · replace hf := f_if hf hc
                  exact Go.sub [1, 2, 3, 4] [(0, .ref a0), (1, .int l12_1), (2, .int l12_2), (3, .int l12_3)] rfl (J105 l12_1 l12_2 hf)
                · replace hf := f_el hf hc
                  exact Go.sub [1, 4, 0] [(0, .ref a0), (3, .int l12_3), (4, .int j53s0)] rfl (J89 hf)
        clear eK53
        refine Go.icmp_le 42 33 rfl dX7_test_30 rfl (fun hc => ?_) (fun hc => ?_)
        · replace hf := f_if hf hc
          refine Go.aload_n 0 43 rfl dX7_test_42 rfl ?_
          refine Go.getI 46 rfl dX7_test_43 fl_X7_175 rfl (isT_lt ha0) (isT_sh ha0) ?_
          refine Go.aload_n 0 47 rfl dX7_test_46 rfl ?_
          refine Go.getR 50 rfl dX7_test_47 fl_X7_48 rfl (isT_lt ha0) (isT_sh ha0) qk20 ?_
          refine Go.iload_n 3 51 rfl dX7_test_50 rfl ?_
          obtain ⟨g51, hf⟩ := f_grd hf
          refine Go.iald 52 rfl dX7_test_51 (isT_lt hk20) (isT_sh hk20) g51 ?_
          refine Go.isub 53 rfl dX7_test_52 ?_
          exact J53 ((S2.1 a0 17) - (S2.1 k20 l12_3.toNatClampNeg)) hf
        · replace hf := f_el hf hc
          refine Go.aload_n 0 34 rfl dX7_test_33 rfl ?_
          refine Go.getR 37 rfl dX7_test_34 fl_X7_48 rfl (isT_lt ha0) (isT_sh ha0) qk20 ?_
          refine Go.iload_n 3 38 rfl dX7_test_37 rfl ?_
          obtain ⟨g38, hf⟩ := f_grd hf
          refine Go.iald 39 rfl dX7_test_38 (isT_lt hk20) (isT_sh hk20) g38 ?_
          refine Go.goto 53 dX7_test_39 rfl ?_
          exact J53 (S2.1 k20 l12_3.toNatClampNeg) hf
  exact Go.sub [3, 2, 1, 0] [(0, .ref a0), (1, .int (-9 : Int32)), (2, .int (0 : Int32)), (3, .int (0 : Int32))] rfl (L12 n (-9 : Int32) (0 : Int32) (0 : Int32) hf)
theorem dX7_odds_0 : decode cX7_odds 0 = .ok (.aload_n 0, 1) := by decide +kernel
theorem dX7_odds_1 : decode cX7_odds 1 = .ok (.iload_n 1, 1) := by decide +kernel
theorem dX7_odds_2 : decode cX7_odds 2 = .ok (.invokevirtual 136, 3) := by decide +kernel
theorem dX7_odds_5 : decode cX7_odds 5 = .ok (.ifCond .eq 11, 3) := by decide +kernel
theorem dX7_odds_8 : decode cX7_odds 8 = .ok (.aload_n 0, 1) := by decide +kernel
theorem dX7_odds_9 : decode cX7_odds 9 = .ok (.iload_n 2, 1) := by decide +kernel
theorem dX7_odds_10 : decode cX7_odds 10 = .ok (.invokevirtual 129, 3) := by decide +kernel
theorem dX7_odds_13 : decode cX7_odds 13 = .ok (.ifCond .ne 5, 3) := by decide +kernel
theorem dX7_odds_16 : decode cX7_odds 16 = .ok (.iconst (-1), 1) := by decide +kernel
theorem dX7_odds_17 : decode cX7_odds 17 = .ok (.ireturn, 1) := by decide +kernel
theorem dX7_odds_18 : decode cX7_odds 18 = .ok (.aload_n 0, 1) := by decide +kernel
theorem dX7_odds_19 : decode cX7_odds 19 = .ok (.iconst 0, 1) := by decide +kernel
theorem dX7_odds_20 : decode cX7_odds 20 = .ok (.invokevirtual 181, 3) := by decide +kernel
theorem dX7_odds_23 : decode cX7_odds 23 = .ok (.aload_n 0, 1) := by decide +kernel
theorem dX7_odds_24 : decode cX7_odds 24 = .ok (.getfield 48, 3) := by decide +kernel
theorem dX7_odds_27 : decode cX7_odds 27 = .ok (.bipush 7, 2) := by decide +kernel
theorem dX7_odds_29 : decode cX7_odds 29 = .ok (.iload_n 1, 1) := by decide +kernel
theorem dX7_odds_30 : decode cX7_odds 30 = .ok (.imul, 1) := by decide +kernel
theorem dX7_odds_31 : decode cX7_odds 31 = .ok (.iload_n 2, 1) := by decide +kernel
theorem dX7_odds_32 : decode cX7_odds 32 = .ok (.iadd, 1) := by decide +kernel
theorem dX7_odds_33 : decode cX7_odds 33 = .ok (.iaload, 1) := by decide +kernel
theorem dX7_odds_34 : decode cX7_odds 34 = .ok (.istore_n 3, 1) := by decide +kernel
theorem dX7_odds_35 : decode cX7_odds 35 = .ok (.aload_n 0, 1) := by decide +kernel
theorem dX7_odds_36 : decode cX7_odds 36 = .ok (.getfield 175, 3) := by decide +kernel
theorem dX7_odds_39 : decode cX7_odds 39 = .ok (.istore 4, 2) := by decide +kernel
theorem dX7_odds_41 : decode cX7_odds 41 = .ok (.iload 4, 2) := by decide +kernel
theorem dX7_odds_43 : decode cX7_odds 43 = .ok (.ifCond .eq 19, 3) := by decide +kernel
theorem dX7_odds_46 : decode cX7_odds 46 = .ok (.iload_n 3, 1) := by decide +kernel
theorem dX7_odds_47 : decode cX7_odds 47 = .ok (.iload 4, 2) := by decide +kernel
theorem dX7_odds_49 : decode cX7_odds 49 = .ok (.irem, 1) := by decide +kernel
theorem dX7_odds_50 : decode cX7_odds 50 = .ok (.istore 5, 2) := by decide +kernel
theorem dX7_odds_52 : decode cX7_odds 52 = .ok (.iload 4, 2) := by decide +kernel
theorem dX7_odds_54 : decode cX7_odds 54 = .ok (.istore_n 3, 1) := by decide +kernel
theorem dX7_odds_55 : decode cX7_odds 55 = .ok (.iload 5, 2) := by decide +kernel
theorem dX7_odds_57 : decode cX7_odds 57 = .ok (.istore 4, 2) := by decide +kernel
theorem dX7_odds_59 : decode cX7_odds 59 = .ok (.goto (-18), 3) := by decide +kernel
theorem dX7_odds_62 : decode cX7_odds 62 = .ok (.aload_n 0, 1) := by decide +kernel
theorem dX7_odds_63 : decode cX7_odds 63 = .ok (.aload_n 0, 1) := by decide +kernel
theorem dX7_odds_64 : decode cX7_odds 64 = .ok (.getfield 48, 3) := by decide +kernel
theorem dX7_odds_67 : decode cX7_odds 67 = .ok (.bipush 7, 2) := by decide +kernel
theorem dX7_odds_69 : decode cX7_odds 69 = .ok (.iload_n 1, 1) := by decide +kernel
theorem dX7_odds_70 : decode cX7_odds 70 = .ok (.imul, 1) := by decide +kernel
theorem dX7_odds_71 : decode cX7_odds 71 = .ok (.iload_n 2, 1) := by decide +kernel
theorem dX7_odds_72 : decode cX7_odds 72 = .ok (.iadd, 1) := by decide +kernel
theorem dX7_odds_73 : decode cX7_odds 73 = .ok (.iaload, 1) := by decide +kernel
theorem dX7_odds_74 : decode cX7_odds 74 = .ok (.iload_n 3, 1) := by decide +kernel
theorem dX7_odds_75 : decode cX7_odds 75 = .ok (.idiv, 1) := by decide +kernel
theorem dX7_odds_76 : decode cX7_odds 76 = .ok (.i2l, 1) := by decide +kernel
theorem dX7_odds_77 : decode cX7_odds 77 = .ok (.putfield 188, 3) := by decide +kernel
theorem dX7_odds_80 : decode cX7_odds 80 = .ok (.aload_n 0, 1) := by decide +kernel
theorem dX7_odds_81 : decode cX7_odds 81 = .ok (.aload_n 0, 1) := by decide +kernel
theorem dX7_odds_82 : decode cX7_odds 82 = .ok (.getfield 175, 3) := by decide +kernel
theorem dX7_odds_85 : decode cX7_odds 85 = .ok (.iload_n 3, 1) := by decide +kernel
theorem dX7_odds_86 : decode cX7_odds 86 = .ok (.idiv, 1) := by decide +kernel
theorem dX7_odds_87 : decode cX7_odds 87 = .ok (.i2l, 1) := by decide +kernel
theorem dX7_odds_88 : decode cX7_odds 88 = .ok (.putfield 32, 3) := by decide +kernel
theorem dX7_odds_91 : decode cX7_odds 91 = .ok (.iconst 1, 1) := by decide +kernel
theorem dX7_odds_92 : decode cX7_odds 92 = .ok (.ireturn, 1) := by decide +kernel
def F_X7_odds_L41 (K62 : Int32 → Option (Int32 × aSt)) : Nat → Int32 → Int32 → Option (Int32 × aSt)
  | 0, _, _ => none
  | fu + 1, l41_3, l41_4 =>
    if l41_4 = 0 then (K62 l41_3) else
    grd (!decide (l41_4 = 0)) <|
    nm (l41_3 - l41_3 / l41_4 * l41_4) fun v50 =>
    F_X7_odds_L41 K62 fu l41_4 v50
def F_X7_odds (n : Nat) (S : aSt) (a0 : Nat) (a1 : Int32) (a2 : Int32) : Option (Int32 × aSt) :=
(F_X7_isQuestion n S a0 a1).bind fun r2 =>
if r2 = 0 then (some ((-1 : Int32), S)) else
(F_X7_isCard n S a0 a2).bind fun r10 =>
if r10 = 0 then (some ((-1 : Int32), S)) else
(F_X7_layMatchings n S a0 (0 : Int32)).bind fun S20 =>
rfd (S20.2.2 a0 16) 7 fun k24 =>
grd (inb (((7 : Int32) * a1) + a2) (SH k24).2) <|
nm (S20.1 k24 (((7 : Int32) * a1) + a2).toNatClampNeg) fun v34 =>
nm (S20.1 a0 17) fun v39 =>
jn (fun (x62_3 : Int32) => (grd (inb (((7 : Int32) * a1) + a2) (SH k24).2) <|
grd (!decide (x62_3 = 0)) <|
nm (stL S20 a0 8 ((S20.1 k24 (((7 : Int32) * a1) + a2).toNatClampNeg) / x62_3).toInt64) fun S77 =>
grd (!decide (x62_3 = 0)) <|
nm (stL S77 a0 9 ((S77.1 a0 17) / x62_3).toInt64) fun S88 =>
some ((1 : Int32), S88) : Option (Int32 × aSt))) fun K62 =>
F_X7_odds_L41 K62 n v34 v39
set_option maxHeartbeats 4000000 in
set_option maxRecDepth 100000 in
theorem C_X7_odds (G : aG) (l : Launch) (n : Nat) (S : aSt) (a0 : Nat) (a1 : Int32) (a2 : Int32) (r : Int32) (Sr : aSt) (ha0 : isT a0 6 = true) (hf : F_X7_odds n S a0 a1 a2 = some (r, Sr)) : Ctr G l yX7_odds mX7_odds (rmM 6) 97 97 S [.ref a0, .int a1, .int a2] (some (.int r)) Sr := by
  refine Ctr.of (by decide) rfl rfl (Nat.le_of_ble_eq_true rfl) [(0, .ref a0), (1, .int a1), (2, .int a2)] rfl ?_
  unfold F_X7_odds at hf
  refine Go.aload_n 0 1 rfl dX7_odds_0 rfl ?_
  refine Go.iload_n 1 2 rfl dX7_odds_1 rfl ?_
  obtain ⟨r2, er2, hf⟩ := f_bnd hf
  refine Go.cV 5 [.int a1] [] (C_X7_isQuestion G l n S a0 a1 r2 ha0 er2) rfl dX7_odds_2 cv_X7_136 ha0 (by decide) (by decide) rfl (Nat.le_of_ble_eq_true rfl) ?_
  refine Go.if_eq 16 8 rfl dX7_odds_5 rfl (fun hc => ?_) (fun hc => ?_)
  · replace hf := f_if hf hc
    refine Go.iconst (-1 : Int32) 17 rfl dX7_odds_16 ci_m1 ?_
    exact Go.irS rfl dX7_odds_17 hf
  · replace hf := f_el hf hc
    refine Go.aload_n 0 9 rfl dX7_odds_8 rfl ?_
    refine Go.iload_n 2 10 rfl dX7_odds_9 rfl ?_
    obtain ⟨r10, er10, hf⟩ := f_bnd hf
    refine Go.cV 13 [.int a2] [] (C_X7_isCard G l n S a0 a2 r10 ha0 er10) rfl dX7_odds_10 cv_X7_129 ha0 (by decide) (by decide) rfl (Nat.le_of_ble_eq_true rfl) ?_
    refine Go.if_ne 18 16 rfl dX7_odds_13 rfl (fun hc => ?_) (fun hc => ?_)
    · replace hf := f_el hf hc
      refine Go.aload_n 0 19 rfl dX7_odds_18 rfl ?_
      refine Go.iconst (0 : Int32) 20 rfl dX7_odds_19 ci_0 ?_
      obtain ⟨S20, eS20, hf⟩ := f_bnd hf
      refine Go.cVv 23 [.int (0 : Int32)] [] (C_X7_layMatchings G l n S a0 (0 : Int32) S20 ha0 eS20) rfl dX7_odds_20 cv_X7_181 ha0 (by decide) (by decide) rfl (Nat.le_of_ble_eq_true rfl) ?_
      refine Go.aload_n 0 24 rfl dX7_odds_23 rfl ?_
      obtain ⟨k24, qk24, hk24, hf⟩ := f_rfd hf
      refine Go.getR 27 rfl dX7_odds_24 fl_X7_48 rfl (isT_lt ha0) (isT_sh ha0) qk24 ?_
      refine Go.bipush (7 : Int32) 29 rfl dX7_odds_27 cb_7 ?_
      refine Go.iload_n 1 30 rfl dX7_odds_29 rfl ?_
      refine Go.imul 31 rfl dX7_odds_30 ?_
      refine Go.iload_n 2 32 rfl dX7_odds_31 rfl ?_
      refine Go.iadd 33 rfl dX7_odds_32 ?_
      obtain ⟨g33, hf⟩ := f_grd hf
      refine Go.iald 34 rfl dX7_odds_33 (isT_lt hk24) (isT_sh hk24) g33 ?_
      obtain ⟨v34, ev34, hf⟩ := f_nm hf
      refine Go.topi v34 ev34 ?_
      refine Go.istore_n 35 [(3, .int v34), (0, .ref a0), (1, .int a1), (2, .int a2)] rfl dX7_odds_34 (by decide) rfl ?_
      refine Go.aload_n 1 36 rfl dX7_odds_35 rfl ?_
      refine Go.getI 39 rfl dX7_odds_36 fl_X7_175 rfl (isT_lt ha0) (isT_sh ha0) ?_
      obtain ⟨v39, ev39, hf⟩ := f_nm hf
      refine Go.topi v39 ev39 ?_
      refine Go.istore 41 [(4, .int v39), (3, .int v34), (0, .ref a0), (1, .int a1), (2, .int a2)] rfl dX7_odds_39 (by decide) rfl ?_
      obtain ⟨K62, eK62, hf⟩ := f_jn hf
      have J62 : ∀ (x62_3 : Int32), K62 x62_3 = some (r, Sr) → GoM G l 6 (TmR G (some (.int r)) 97 Sr 0 0) mX7_odds 62 [(0, .ref a0), (1, .int a1), (2, .int a2), (3, .int x62_3)] [] S20 := by
        intro x62_3 hf
        rw [eK62] at hf
        refine Go.aload_n 0 63 rfl dX7_odds_62 rfl ?_
        refine Go.aload_n 0 64 rfl dX7_odds_63 rfl ?_
        refine Go.getR 67 rfl dX7_odds_64 fl_X7_48 rfl (isT_lt ha0) (isT_sh ha0) qk24 ?_
        refine Go.bipush (7 : Int32) 69 rfl dX7_odds_67 cb_7 ?_
        refine Go.iload_n 1 70 rfl dX7_odds_69 rfl ?_
        refine Go.imul 71 rfl dX7_odds_70 ?_
        refine Go.iload_n 2 72 rfl dX7_odds_71 rfl ?_
        refine Go.iadd 73 rfl dX7_odds_72 ?_
        obtain ⟨g73, hf⟩ := f_grd hf
        refine Go.iald 74 rfl dX7_odds_73 (isT_lt hk24) (isT_sh hk24) g73 ?_
        refine Go.iload_n 3 75 rfl dX7_odds_74 rfl ?_
        obtain ⟨g75, hf⟩ := f_grd hf
        refine Go.idiv 76 rfl dX7_odds_75 (by simpa using g75) ?_
        refine Go.i2l 77 rfl dX7_odds_76 ?_
        obtain ⟨S77, eS77, hf⟩ := f_nm hf
        refine Go.putL 80 rfl dX7_odds_77 fp_X7_188 rfl (isT_lt ha0) (isT_sh ha0) (fun h => by cases h) (Go.stt S77 eS77 ?_)
        refine Go.aload_n 0 81 rfl dX7_odds_80 rfl ?_
        refine Go.aload_n 0 82 rfl dX7_odds_81 rfl ?_
        refine Go.getI 85 rfl dX7_odds_82 fl_X7_175 rfl (isT_lt ha0) (isT_sh ha0) ?_
        refine Go.iload_n 3 86 rfl dX7_odds_85 rfl ?_
        obtain ⟨g86, hf⟩ := f_grd hf
        refine Go.idiv 87 rfl dX7_odds_86 (by simpa using g86) ?_
        refine Go.i2l 88 rfl dX7_odds_87 ?_
        obtain ⟨S88, eS88, hf⟩ := f_nm hf
        refine Go.putL 91 rfl dX7_odds_88 fp_X7_32 rfl (isT_lt ha0) (isT_sh ha0) (fun h => by cases h) (Go.stt S88 eS88 ?_)
        refine Go.iconst (1 : Int32) 92 rfl dX7_odds_91 ci_1 ?_
        exact Go.irS rfl dX7_odds_92 hf
      clear eK62
      have L41 : ∀ (fu : Nat) (l41_3 : Int32) (l41_4 : Int32), F_X7_odds_L41 K62 fu l41_3 l41_4 = some (r, Sr) → GoM G l 6 (TmR G (some (.int r)) 97 Sr 0 0) mX7_odds 41 [(0, .ref a0), (1, .int a1), (2, .int a2), (3, .int l41_3), (4, .int l41_4)] [] S20 := by
        intro fu
        induction fu with
        | zero => intro l41_3 l41_4 hf; rw [F_X7_odds_L41] at hf; cases hf
        | succ fu ih =>
          intro l41_3 l41_4 hf
          rw [F_X7_odds_L41] at hf
          refine Go.iload 4 43 rfl dX7_odds_41 rfl ?_
          refine Go.if_eq 62 46 rfl dX7_odds_43 rfl (fun hc => ?_) (fun hc => ?_)
          · replace hf := f_if hf hc
            exact Go.sub [0, 1, 2, 3] [(0, .ref a0), (1, .int a1), (2, .int a2), (3, .int l41_3)] rfl (J62 l41_3 hf)
          · replace hf := f_el hf hc
            refine Go.iload_n 3 47 rfl dX7_odds_46 rfl ?_
            refine Go.iload 4 49 rfl dX7_odds_47 rfl ?_
            obtain ⟨g49, hf⟩ := f_grd hf
            refine Go.irem 50 rfl dX7_odds_49 (by simpa using g49) ?_
            obtain ⟨v50, ev50, hf⟩ := f_nm hf
            refine Go.topi v50 ev50 ?_
            refine Go.istore 52 [(5, .int v50), (0, .ref a0), (1, .int a1), (2, .int a2), (3, .int l41_3), (4, .int l41_4)] rfl dX7_odds_50 (by decide) rfl ?_
            refine Go.iload 5 54 rfl dX7_odds_52 rfl ?_
            refine Go.istore_n 55 [(3, .int l41_4), (5, .int v50), (0, .ref a0), (1, .int a1), (2, .int a2), (4, .int l41_4)] rfl dX7_odds_54 (by decide) rfl ?_
            refine Go.iload 1 57 rfl dX7_odds_55 rfl ?_
            refine Go.istore 59 [(4, .int v50), (3, .int l41_4), (5, .int v50), (0, .ref a0), (1, .int a1), (2, .int a2)] rfl dX7_odds_57 (by decide) rfl ?_
            refine Go.goto 41 dX7_odds_59 rfl ?_
            exact Go.sub [3, 4, 5, 1, 0] [(0, .ref a0), (1, .int a1), (2, .int a2), (3, .int l41_4), (4, .int v50)] rfl (ih l41_4 v50 hf)
      exact Go.sub [2, 3, 4, 1, 0] [(0, .ref a0), (1, .int a1), (2, .int a2), (3, .int v34), (4, .int v39)] rfl (L41 n v34 v39 hf)
    · replace hf := f_if hf hc
      refine Go.iconst (-1 : Int32) 17 rfl dX7_odds_16 ci_m1 ?_
      exact Go.irS rfl dX7_odds_17 hf
theorem dX7_worlds_0 : decode cX7_worlds 0 = .ok (.iconst 1, 1) := by decide +kernel
theorem dX7_worlds_1 : decode cX7_worlds 1 = .ok (.istore_n 1, 1) := by decide +kernel
theorem dX7_worlds_2 : decode cX7_worlds 2 = .ok (.iconst 0, 1) := by decide +kernel
theorem dX7_worlds_3 : decode cX7_worlds 3 = .ok (.istore_n 2, 1) := by decide +kernel
theorem dX7_worlds_4 : decode cX7_worlds 4 = .ok (.iload_n 2, 1) := by decide +kernel
theorem dX7_worlds_5 : decode cX7_worlds 5 = .ok (.aload_n 0, 1) := by decide +kernel
theorem dX7_worlds_6 : decode cX7_worlds 6 = .ok (.getfield 22, 3) := by decide +kernel
theorem dX7_worlds_9 : decode cX7_worlds 9 = .ok (.iconst 1, 1) := by decide +kernel
theorem dX7_worlds_10 : decode cX7_worlds 10 = .ok (.iaload, 1) := by decide +kernel
theorem dX7_worlds_11 : decode cX7_worlds 11 = .ok (.if_icmp .ge 126, 3) := by decide +kernel
theorem dX7_worlds_14 : decode cX7_worlds 14 = .ok (.aload_n 0, 1) := by decide +kernel
theorem dX7_worlds_15 : decode cX7_worlds 15 = .ok (.getfield 22, 3) := by decide +kernel
theorem dX7_worlds_18 : decode cX7_worlds 18 = .ok (.bipush 38, 2) := by decide +kernel
theorem dX7_worlds_20 : decode cX7_worlds 20 = .ok (.iload_n 2, 1) := by decide +kernel
theorem dX7_worlds_21 : decode cX7_worlds 21 = .ok (.iadd, 1) := by decide +kernel
theorem dX7_worlds_22 : decode cX7_worlds 22 = .ok (.iaload, 1) := by decide +kernel
theorem dX7_worlds_23 : decode cX7_worlds 23 = .ok (.istore_n 3, 1) := by decide +kernel
theorem dX7_worlds_24 : decode cX7_worlds 24 = .ok (.aload_n 0, 1) := by decide +kernel
theorem dX7_worlds_25 : decode cX7_worlds 25 = .ok (.getfield 22, 3) := by decide +kernel
theorem dX7_worlds_28 : decode cX7_worlds 28 = .ok (.bipush 45, 2) := by decide +kernel
theorem dX7_worlds_30 : decode cX7_worlds 30 = .ok (.iload_n 2, 1) := by decide +kernel
theorem dX7_worlds_31 : decode cX7_worlds 31 = .ok (.iadd, 1) := by decide +kernel
theorem dX7_worlds_32 : decode cX7_worlds 32 = .ok (.iaload, 1) := by decide +kernel
theorem dX7_worlds_33 : decode cX7_worlds 33 = .ok (.istore 4, 2) := by decide +kernel
theorem dX7_worlds_35 : decode cX7_worlds 35 = .ok (.aload_n 0, 1) := by decide +kernel
theorem dX7_worlds_36 : decode cX7_worlds 36 = .ok (.getfield 22, 3) := by decide +kernel
theorem dX7_worlds_39 : decode cX7_worlds 39 = .ok (.bipush 59, 2) := by decide +kernel
theorem dX7_worlds_41 : decode cX7_worlds 41 = .ok (.iload_n 2, 1) := by decide +kernel
theorem dX7_worlds_42 : decode cX7_worlds 42 = .ok (.iadd, 1) := by decide +kernel
theorem dX7_worlds_43 : decode cX7_worlds 43 = .ok (.iaload, 1) := by decide +kernel
theorem dX7_worlds_44 : decode cX7_worlds 44 = .ok (.bipush (-9), 2) := by decide +kernel
theorem dX7_worlds_46 : decode cX7_worlds 46 = .ok (.if_icmp .eq 7, 3) := by decide +kernel
theorem dX7_worlds_49 : decode cX7_worlds 49 = .ok (.iconst 1, 1) := by decide +kernel
theorem dX7_worlds_50 : decode cX7_worlds 50 = .ok (.goto 4, 3) := by decide +kernel
theorem dX7_worlds_53 : decode cX7_worlds 53 = .ok (.iconst 0, 1) := by decide +kernel
theorem dX7_worlds_54 : decode cX7_worlds 54 = .ok (.istore 5, 2) := by decide +kernel
theorem dX7_worlds_56 : decode cX7_worlds 56 = .ok (.aload_n 0, 1) := by decide +kernel
theorem dX7_worlds_57 : decode cX7_worlds 57 = .ok (.iload_n 2, 1) := by decide +kernel
theorem dX7_worlds_58 : decode cX7_worlds 58 = .ok (.invokevirtual 147, 3) := by decide +kernel
theorem dX7_worlds_61 : decode cX7_worlds 61 = .ok (.ifCond .eq 24, 3) := by decide +kernel
theorem dX7_worlds_64 : decode cX7_worlds 64 = .ok (.iload_n 1, 1) := by decide +kernel
theorem dX7_worlds_65 : decode cX7_worlds 65 = .ok (.iload 5, 2) := by decide +kernel
theorem dX7_worlds_67 : decode cX7_worlds 67 = .ok (.ifCond .eq 7, 3) := by decide +kernel
theorem dX7_worlds_70 : decode cX7_worlds 70 = .ok (.iconst 1, 1) := by decide +kernel
theorem dX7_worlds_71 : decode cX7_worlds 71 = .ok (.goto 9, 3) := by decide +kernel
theorem dX7_worlds_74 : decode cX7_worlds 74 = .ok (.iload 4, 2) := by decide +kernel
theorem dX7_worlds_76 : decode cX7_worlds 76 = .ok (.iload_n 3, 1) := by decide +kernel
theorem dX7_worlds_77 : decode cX7_worlds 77 = .ok (.isub, 1) := by decide +kernel
theorem dX7_worlds_78 : decode cX7_worlds 78 = .ok (.iconst 1, 1) := by decide +kernel
theorem dX7_worlds_79 : decode cX7_worlds 79 = .ok (.iadd, 1) := by decide +kernel
theorem dX7_worlds_80 : decode cX7_worlds 80 = .ok (.imul, 1) := by decide +kernel
theorem dX7_worlds_81 : decode cX7_worlds 81 = .ok (.istore_n 1, 1) := by decide +kernel
theorem dX7_worlds_82 : decode cX7_worlds 82 = .ok (.goto 49, 3) := by decide +kernel
theorem dX7_worlds_85 : decode cX7_worlds 85 = .ok (.iload_n 1, 1) := by decide +kernel
theorem dX7_worlds_86 : decode cX7_worlds 86 = .ok (.iload 5, 2) := by decide +kernel
theorem dX7_worlds_88 : decode cX7_worlds 88 = .ok (.ifCond .eq 11, 3) := by decide +kernel
theorem dX7_worlds_91 : decode cX7_worlds 91 = .ok (.aload_n 0, 1) := by decide +kernel
theorem dX7_worlds_92 : decode cX7_worlds 92 = .ok (.iload_n 2, 1) := by decide +kernel
theorem dX7_worlds_93 : decode cX7_worlds 93 = .ok (.invokevirtual 157, 3) := by decide +kernel
theorem dX7_worlds_96 : decode cX7_worlds 96 = .ok (.goto 33, 3) := by decide +kernel
theorem dX7_worlds_99 : decode cX7_worlds 99 = .ok (.aload_n 0, 1) := by decide +kernel
theorem dX7_worlds_100 : decode cX7_worlds 100 = .ok (.aload_n 0, 1) := by decide +kernel
theorem dX7_worlds_101 : decode cX7_worlds 101 = .ok (.getfield 22, 3) := by decide +kernel
theorem dX7_worlds_104 : decode cX7_worlds 104 = .ok (.bipush 66, 2) := by decide +kernel
theorem dX7_worlds_106 : decode cX7_worlds 106 = .ok (.iload_n 2, 1) := by decide +kernel
theorem dX7_worlds_107 : decode cX7_worlds 107 = .ok (.iadd, 1) := by decide +kernel
theorem dX7_worlds_108 : decode cX7_worlds 108 = .ok (.iaload, 1) := by decide +kernel
theorem dX7_worlds_109 : decode cX7_worlds 109 = .ok (.invokevirtual 120, 3) := by decide +kernel
theorem dX7_worlds_112 : decode cX7_worlds 112 = .ok (.i2l, 1) := by decide +kernel
theorem dX7_worlds_113 : decode cX7_worlds 113 = .ok (.iload_n 3, 1) := by decide +kernel
theorem dX7_worlds_114 : decode cX7_worlds 114 = .ok (.i2l, 1) := by decide +kernel
theorem dX7_worlds_115 : decode cX7_worlds 115 = .ok (.iload 4, 2) := by decide +kernel
theorem dX7_worlds_117 : decode cX7_worlds 117 = .ok (.i2l, 1) := by decide +kernel
theorem dX7_worlds_118 : decode cX7_worlds 118 = .ok (.invokestatic 66, 3) := by decide +kernel
theorem dX7_worlds_121 : decode cX7_worlds 121 = .ok (.ifCond .eq 7, 3) := by decide +kernel
theorem dX7_worlds_124 : decode cX7_worlds 124 = .ok (.iconst 1, 1) := by decide +kernel
theorem dX7_worlds_125 : decode cX7_worlds 125 = .ok (.goto 4, 3) := by decide +kernel
theorem dX7_worlds_128 : decode cX7_worlds 128 = .ok (.iconst 0, 1) := by decide +kernel
theorem dX7_worlds_129 : decode cX7_worlds 129 = .ok (.imul, 1) := by decide +kernel
theorem dX7_worlds_130 : decode cX7_worlds 130 = .ok (.istore_n 1, 1) := by decide +kernel
theorem dX7_worlds_131 : decode cX7_worlds 131 = .ok (.iinc 2 1, 3) := by decide +kernel
theorem dX7_worlds_134 : decode cX7_worlds 134 = .ok (.goto (-130), 3) := by decide +kernel
theorem dX7_worlds_137 : decode cX7_worlds 137 = .ok (.iload_n 1, 1) := by decide +kernel
theorem dX7_worlds_138 : decode cX7_worlds 138 = .ok (.ireturn, 1) := by decide +kernel
def F_X7_worlds_L4 (n : Nat) (S : aSt) (a0 : Nat) (K137 : Int32 → Option Int32) : Nat → Int32 → Int32 → Option Int32
  | 0, _, _ => none
  | fu + 1, l4_1, l4_2 =>
    rfd (S.2.2 a0 4) 7 fun k6 =>
    grd (inb (1 : Int32) (SH k6).2) <|
    if (S.1 k6 (1 : Int32).toNatClampNeg) ≤ l4_2 then (K137 l4_1) else
    grd (inb ((38 : Int32) + l4_2) (SH k6).2) <|
    nm (S.1 k6 ((38 : Int32) + l4_2).toNatClampNeg) fun v23 =>
    grd (inb ((45 : Int32) + l4_2) (SH k6).2) <|
    nm (S.1 k6 ((45 : Int32) + l4_2).toNatClampNeg) fun v33 =>
    grd (inb ((59 : Int32) + l4_2) (SH k6).2) <|
    jn (fun (j54s0 : Int32) => ((F_X7_isFree n S a0 l4_2).bind fun r58 =>
    jn (fun (j131_1 : Int32) => (F_X7_worlds_L4 n S a0 K137 fu j131_1 (l4_2 + (1 : Int32)) : Option Int32)) fun K131 =>
    if r58 = 0 then (jn (fun (j129s1 : Int32) => (nm (l4_1 * j129s1) fun v130 =>
    K131 v130 : Option Int32)) fun K129 =>
    if j54s0 = 0 then (grd (inb ((66 : Int32) + l4_2) (SH k6).2) <|
    (F_X7_means n S a0 (S.1 k6 ((66 : Int32) + l4_2).toNatClampNeg)).bind fun r109 =>
    (F_X7_in n S r109.toInt64 v23.toInt64 v33.toInt64).bind fun r118 =>
    if r118 = 0 then (K129 (0 : Int32)) else
    K129 (1 : Int32)) else
    (F_X7_stands n S a0 l4_2).bind fun r93 =>
    K129 r93) else
    jn (fun (j80s1 : Int32) => (nm (l4_1 * j80s1) fun v81 =>
    K131 v81 : Option Int32)) fun K80 =>
    if j54s0 = 0 then (K80 ((v33 - v23) + (1 : Int32))) else
    K80 (1 : Int32) : Option Int32)) fun K54 =>
    if (S.1 k6 ((59 : Int32) + l4_2).toNatClampNeg) = (-9 : Int32) then (K54 (0 : Int32)) else
    K54 (1 : Int32)
def F_X7_worlds (n : Nat) (S : aSt) (a0 : Nat) : Option Int32 :=
jn (fun (x137_1 : Int32) => (some x137_1 : Option Int32)) fun K137 =>
F_X7_worlds_L4 n S a0 K137 n (1 : Int32) (0 : Int32)
set_option maxHeartbeats 4000000 in
set_option maxRecDepth 100000 in
theorem C_X7_worlds (G : aG) (l : Launch) (n : Nat) (S : aSt) (a0 : Nat) (r : Int32) (ha0 : isT a0 6 = true) (hf : F_X7_worlds n S a0 = some r) : Ctr G l yX7_worlds mX7_worlds (rmM 3) 97 97 S [.ref a0] (some (.int r)) S := by
  refine Ctr.of (by decide) rfl rfl (Nat.le_of_ble_eq_true rfl) [(0, .ref a0)] rfl ?_
  unfold F_X7_worlds at hf
  refine Go.iconst (1 : Int32) 1 rfl dX7_worlds_0 ci_1 ?_
  refine Go.istore_n 2 [(1, .int (1 : Int32)), (0, .ref a0)] rfl dX7_worlds_1 (by decide) rfl ?_
  refine Go.iconst (0 : Int32) 3 rfl dX7_worlds_2 ci_0 ?_
  refine Go.istore_n 4 [(2, .int (0 : Int32)), (1, .int (1 : Int32)), (0, .ref a0)] rfl dX7_worlds_3 (by decide) rfl ?_
  obtain ⟨K137, eK137, hf⟩ := f_jn hf
  have J137 : ∀ (x137_1 : Int32), K137 x137_1 = some r → GoM G l 3 (TmR G (some (.int r)) 97 S 0 0) mX7_worlds 137 [(1, .int x137_1)] [] S := by
    intro x137_1 hf
    rw [eK137] at hf
    refine Go.iload_n 0 138 rfl dX7_worlds_137 rfl ?_
    exact Go.ir rfl dX7_worlds_138 hf
  clear eK137
  have L4 : ∀ (fu : Nat) (l4_1 : Int32) (l4_2 : Int32), F_X7_worlds_L4 n S a0 K137 fu l4_1 l4_2 = some r → GoM G l 3 (TmR G (some (.int r)) 97 S 0 0) mX7_worlds 4 [(0, .ref a0), (1, .int l4_1), (2, .int l4_2)] [] S := by
    intro fu
    induction fu with
    | zero => intro l4_1 l4_2 hf; rw [F_X7_worlds_L4] at hf; cases hf
    | succ fu ih =>
      intro l4_1 l4_2 hf
      rw [F_X7_worlds_L4] at hf
      refine Go.iload_n 2 5 rfl dX7_worlds_4 rfl ?_
      refine Go.aload_n 0 6 rfl dX7_worlds_5 rfl ?_
      obtain ⟨k6, qk6, hk6, hf⟩ := f_rfd hf
      refine Go.getR 9 rfl dX7_worlds_6 fl_X7_22 rfl (isT_lt ha0) (isT_sh ha0) qk6 ?_
      refine Go.iconst (1 : Int32) 10 rfl dX7_worlds_9 ci_1 ?_
      obtain ⟨g10, hf⟩ := f_grd hf
      refine Go.iald 11 rfl dX7_worlds_10 (isT_lt hk6) (isT_sh hk6) g10 ?_
      refine Go.icmp_ge 137 14 rfl dX7_worlds_11 rfl (fun hc => ?_) (fun hc => ?_)
      · replace hf := f_if hf hc
        exact Go.sub [1] [(1, .int l4_1)] rfl (J137 l4_1 hf)
      · replace hf := f_el hf hc
        refine Go.aload_n 0 15 rfl dX7_worlds_14 rfl ?_
        refine Go.getR 18 rfl dX7_worlds_15 fl_X7_22 rfl (isT_lt ha0) (isT_sh ha0) qk6 ?_
        refine Go.bipush (38 : Int32) 20 rfl dX7_worlds_18 cb_38 ?_
        refine Go.iload_n 2 21 rfl dX7_worlds_20 rfl ?_
        refine Go.iadd 22 rfl dX7_worlds_21 ?_
        obtain ⟨g22, hf⟩ := f_grd hf
        refine Go.iald 23 rfl dX7_worlds_22 (isT_lt hk6) (isT_sh hk6) g22 ?_
        obtain ⟨v23, ev23, hf⟩ := f_nm hf
        refine Go.topi v23 ev23 ?_
        refine Go.istore_n 24 [(3, .int v23), (0, .ref a0), (1, .int l4_1), (2, .int l4_2)] rfl dX7_worlds_23 (by decide) rfl ?_
        refine Go.aload_n 1 25 rfl dX7_worlds_24 rfl ?_
        refine Go.getR 28 rfl dX7_worlds_25 fl_X7_22 rfl (isT_lt ha0) (isT_sh ha0) qk6 ?_
        refine Go.bipush (45 : Int32) 30 rfl dX7_worlds_28 cb_45 ?_
        refine Go.iload_n 3 31 rfl dX7_worlds_30 rfl ?_
        refine Go.iadd 32 rfl dX7_worlds_31 ?_
        obtain ⟨g32, hf⟩ := f_grd hf
        refine Go.iald 33 rfl dX7_worlds_32 (isT_lt hk6) (isT_sh hk6) g32 ?_
        obtain ⟨v33, ev33, hf⟩ := f_nm hf
        refine Go.topi v33 ev33 ?_
        refine Go.istore 35 [(4, .int v33), (3, .int v23), (0, .ref a0), (1, .int l4_1), (2, .int l4_2)] rfl dX7_worlds_33 (by decide) rfl ?_
        refine Go.aload_n 2 36 rfl dX7_worlds_35 rfl ?_
        refine Go.getR 39 rfl dX7_worlds_36 fl_X7_22 rfl (isT_lt ha0) (isT_sh ha0) qk6 ?_
        refine Go.bipush (59 : Int32) 41 rfl dX7_worlds_39 cb_59 ?_
        refine Go.iload_n 4 42 rfl dX7_worlds_41 rfl ?_
        refine Go.iadd 43 rfl dX7_worlds_42 ?_
        obtain ⟨g43, hf⟩ := f_grd hf
        refine Go.iald 44 rfl dX7_worlds_43 (isT_lt hk6) (isT_sh hk6) g43 ?_
        refine Go.bipush (-9 : Int32) 46 rfl dX7_worlds_44 cb_m9 ?_
        obtain ⟨K54, eK54, hf⟩ := f_jn hf
        have J54 : ∀ (j54s0 : Int32), K54 j54s0 = some r → GoM G l 3 (TmR G (some (.int r)) 97 S 0 0) mX7_worlds 54 [(0, .ref a0), (1, .int l4_1), (2, .int l4_2), (3, .int v23), (4, .int v33)] [.int j54s0] S := by
          intro j54s0 hf
          rw [eK54] at hf
          refine Go.istore 56 [(5, .int j54s0), (0, .ref a0), (1, .int l4_1), (2, .int l4_2), (3, .int v23), (4, .int v33)] rfl dX7_worlds_54 (by decide) rfl ?_
          refine Go.aload_n 1 57 rfl dX7_worlds_56 rfl ?_
          refine Go.iload_n 3 58 rfl dX7_worlds_57 rfl ?_
          obtain ⟨r58, er58, hf⟩ := f_bnd hf
          refine Go.cV 61 [.int l4_2] [] (C_X7_isFree G l n S a0 l4_2 r58 ha0 er58) rfl dX7_worlds_58 cv_X7_147 ha0 (by decide) (by decide) rfl (Nat.le_of_ble_eq_true rfl) ?_
          obtain ⟨K131, eK131, hf⟩ := f_jn hf
          have J131 : ∀ (j131_1 : Int32), K131 j131_1 = some r → GoM G l 3 (TmR G (some (.int r)) 97 S 0 0) mX7_worlds 131 [(0, .ref a0), (1, .int j131_1), (2, .int l4_2)] [] S := by
            intro j131_1 hf
            rw [eK131] at hf
            refine Go.inc 2 134 (1 : Int32) [(2, .int (l4_2 + (1 : Int32))), (0, .ref a0), (1, .int j131_1)] rfl dX7_worlds_131 rfl ci_1 (by decide) rfl ?_
            refine Go.goto 4 dX7_worlds_134 rfl ?_
            exact Go.sub [1, 2, 0] [(0, .ref a0), (1, .int j131_1), (2, .int (l4_2 + (1 : Int32)))] rfl (ih j131_1 (l4_2 + (1 : Int32)) hf)
          clear eK131
          refine Go.if_eq 85 64 rfl dX7_worlds_61 rfl (fun hc => ?_) (fun hc => ?_)
          · replace hf := f_if hf hc
            refine Go.iload_n 2 86 rfl dX7_worlds_85 rfl ?_
            refine Go.iload 0 88 rfl dX7_worlds_86 rfl ?_
            obtain ⟨K129, eK129, hf⟩ := f_jn hf
            have J129 : ∀ (j129s1 : Int32), K129 j129s1 = some r → GoM G l 3 (TmR G (some (.int r)) 97 S 0 0) mX7_worlds 129 [(0, .ref a0), (2, .int l4_2)] [.int j129s1, .int l4_1] S := by
              intro j129s1 hf
              rw [eK129] at hf
              refine Go.imul 130 rfl dX7_worlds_129 ?_
              obtain ⟨v130, ev130, hf⟩ := f_nm hf
              refine Go.topi v130 ev130 ?_
              refine Go.istore_n 131 [(1, .int v130), (0, .ref a0), (2, .int l4_2)] rfl dX7_worlds_130 (by decide) rfl ?_
              exact Go.sub [1, 0, 2] [(0, .ref a0), (1, .int v130), (2, .int l4_2)] rfl (J131 v130 hf)
            clear eK129
            refine Go.if_eq 99 91 rfl dX7_worlds_88 rfl (fun hc => ?_) (fun hc => ?_)
            · replace hf := f_if hf hc
              refine Go.aload_n 1 100 rfl dX7_worlds_99 rfl ?_
              refine Go.aload_n 1 101 rfl dX7_worlds_100 rfl ?_
              refine Go.getR 104 rfl dX7_worlds_101 fl_X7_22 rfl (isT_lt ha0) (isT_sh ha0) qk6 ?_
              refine Go.bipush (66 : Int32) 106 rfl dX7_worlds_104 cb_66 ?_
              refine Go.iload_n 3 107 rfl dX7_worlds_106 rfl ?_
              refine Go.iadd 108 rfl dX7_worlds_107 ?_
              obtain ⟨g108, hf⟩ := f_grd hf
              refine Go.iald 109 rfl dX7_worlds_108 (isT_lt hk6) (isT_sh hk6) g108 ?_
              obtain ⟨r109, er109, hf⟩ := f_bnd hf
              refine Go.cV 112 [.int (S.1 k6 ((66 : Int32) + l4_2).toNatClampNeg)] [.int l4_1] (C_X7_means G l n S a0 (S.1 k6 ((66 : Int32) + l4_2).toNatClampNeg) r109 ha0 er109) rfl dX7_worlds_109 cv_X7_120 ha0 (by decide) (by decide) rfl (Nat.le_of_ble_eq_true rfl) ?_
              refine Go.i2l 113 rfl dX7_worlds_112 ?_
              refine Go.iload_n 4 114 rfl dX7_worlds_113 rfl ?_
              refine Go.i2l 115 rfl dX7_worlds_114 ?_
              refine Go.iload 5 117 rfl dX7_worlds_115 rfl ?_
              refine Go.i2l 118 rfl dX7_worlds_117 ?_
              obtain ⟨r118, er118, hf⟩ := f_bnd hf
              refine Go.cS 121 [.long r109.toInt64, .long v23.toInt64, .long v33.toInt64] [.int l4_1] (C_X7_in G l n S r109.toInt64 v23.toInt64 v33.toInt64 r118  er118) rfl dX7_worlds_118 cx_X7_66 (by decide) (by decide) rfl (Nat.le_of_ble_eq_true rfl) ?_
              refine Go.if_eq 128 124 rfl dX7_worlds_121 rfl (fun hc => ?_) (fun hc => ?_)
              · replace hf := f_if hf hc
                refine Go.iconst (0 : Int32) 129 rfl dX7_worlds_128 ci_0 ?_
                exact Go.sub [1, 3] [(0, .ref a0), (2, .int l4_2)] rfl (J129 (0 : Int32) hf)
              · replace hf := f_el hf hc
                refine Go.iconst (1 : Int32) 125 rfl dX7_worlds_124 ci_1 ?_
                refine Go.goto 129 dX7_worlds_125 rfl ?_
                exact Go.sub [1, 3] [(0, .ref a0), (2, .int l4_2)] rfl (J129 (1 : Int32) hf)
            · replace hf := f_el hf hc
              refine Go.aload_n 1 92 rfl dX7_worlds_91 rfl ?_
              refine Go.iload_n 3 93 rfl dX7_worlds_92 rfl ?_
              obtain ⟨r93, er93, hf⟩ := f_bnd hf
              refine Go.cV 96 [.int l4_2] [.int l4_1] (C_X7_stands G l n S a0 l4_2 r93 ha0 er93) rfl dX7_worlds_93 cv_X7_157 ha0 (by decide) (by decide) rfl (Nat.le_of_ble_eq_true rfl) ?_
              refine Go.goto 129 dX7_worlds_96 rfl ?_
              exact Go.sub [1, 3] [(0, .ref a0), (2, .int l4_2)] rfl (J129 r93 hf)
          · replace hf := f_el hf hc
            refine Go.iload_n 2 65 rfl dX7_worlds_64 rfl ?_
            refine Go.iload 0 67 rfl dX7_worlds_65 rfl ?_
            obtain ⟨K80, eK80, hf⟩ := f_jn hf
            have J80 : ∀ (j80s1 : Int32), K80 j80s1 = some r → GoM G l 3 (TmR G (some (.int r)) 97 S 0 0) mX7_worlds 80 [(0, .ref a0), (2, .int l4_2)] [.int j80s1, .int l4_1] S := by
              intro j80s1 hf
              rw [eK80] at hf
              refine Go.imul 81 rfl dX7_worlds_80 ?_
              obtain ⟨v81, ev81, hf⟩ := f_nm hf
              refine Go.topi v81 ev81 ?_
              refine Go.istore_n 82 [(1, .int v81), (0, .ref a0), (2, .int l4_2)] rfl dX7_worlds_81 (by decide) rfl ?_
              refine Go.goto 131 dX7_worlds_82 rfl ?_
              exact Go.sub [1, 0, 2] [(0, .ref a0), (1, .int v81), (2, .int l4_2)] rfl (J131 v81 hf)
            clear eK80
            refine Go.if_eq 74 70 rfl dX7_worlds_67 rfl (fun hc => ?_) (fun hc => ?_)
            · replace hf := f_if hf hc
              refine Go.iload 5 76 rfl dX7_worlds_74 rfl ?_
              refine Go.iload_n 4 77 rfl dX7_worlds_76 rfl ?_
              refine Go.isub 78 rfl dX7_worlds_77 ?_
              refine Go.iconst (1 : Int32) 79 rfl dX7_worlds_78 ci_1 ?_
              refine Go.iadd 80 rfl dX7_worlds_79 ?_
              exact Go.sub [1, 3] [(0, .ref a0), (2, .int l4_2)] rfl (J80 ((v33 - v23) + (1 : Int32)) hf)
            · replace hf := f_el hf hc
              refine Go.iconst (1 : Int32) 71 rfl dX7_worlds_70 ci_1 ?_
              refine Go.goto 80 dX7_worlds_71 rfl ?_
              exact Go.sub [1, 3] [(0, .ref a0), (2, .int l4_2)] rfl (J80 (1 : Int32) hf)
        clear eK54
        refine Go.icmp_eq 53 49 rfl dX7_worlds_46 rfl (fun hc => ?_) (fun hc => ?_)
        · replace hf := f_if hf hc
          refine Go.iconst (0 : Int32) 54 rfl dX7_worlds_53 ci_0 ?_
          exact Go.sub [2, 3, 4, 1, 0] [(0, .ref a0), (1, .int l4_1), (2, .int l4_2), (3, .int v23), (4, .int v33)] rfl (J54 (0 : Int32) hf)
        · replace hf := f_el hf hc
          refine Go.iconst (1 : Int32) 50 rfl dX7_worlds_49 ci_1 ?_
          refine Go.goto 54 dX7_worlds_50 rfl ?_
          exact Go.sub [2, 3, 4, 1, 0] [(0, .ref a0), (1, .int l4_1), (2, .int l4_2), (3, .int v23), (4, .int v33)] rfl (J54 (1 : Int32) hf)
  exact Go.sub [2, 1, 0] [(0, .ref a0), (1, .int (1 : Int32)), (2, .int (0 : Int32))] rfl (L4 n (1 : Int32) (0 : Int32) hf)
theorem dX7_never_0 : decode cX7_never 0 = .ok (.iconst 0, 1) := by decide +kernel
theorem dX7_never_1 : decode cX7_never 1 = .ok (.istore_n 1, 1) := by decide +kernel
theorem dX7_never_2 : decode cX7_never 2 = .ok (.iconst 0, 1) := by decide +kernel
theorem dX7_never_3 : decode cX7_never 3 = .ok (.istore_n 2, 1) := by decide +kernel
theorem dX7_never_4 : decode cX7_never 4 = .ok (.iload_n 2, 1) := by decide +kernel
theorem dX7_never_5 : decode cX7_never 5 = .ok (.aload_n 0, 1) := by decide +kernel
theorem dX7_never_6 : decode cX7_never 6 = .ok (.getfield 22, 3) := by decide +kernel
theorem dX7_never_9 : decode cX7_never 9 = .ok (.iconst 1, 1) := by decide +kernel
theorem dX7_never_10 : decode cX7_never 10 = .ok (.iaload, 1) := by decide +kernel
theorem dX7_never_11 : decode cX7_never 11 = .ok (.if_icmp .ge 97, 3) := by decide +kernel
theorem dX7_never_14 : decode cX7_never 14 = .ok (.iconst 0, 1) := by decide +kernel
theorem dX7_never_15 : decode cX7_never 15 = .ok (.istore_n 3, 1) := by decide +kernel
theorem dX7_never_16 : decode cX7_never 16 = .ok (.iconst 0, 1) := by decide +kernel
theorem dX7_never_17 : decode cX7_never 17 = .ok (.istore 4, 2) := by decide +kernel
theorem dX7_never_19 : decode cX7_never 19 = .ok (.iload 4, 2) := by decide +kernel
theorem dX7_never_21 : decode cX7_never 21 = .ok (.aload_n 0, 1) := by decide +kernel
theorem dX7_never_22 : decode cX7_never 22 = .ok (.getfield 22, 3) := by decide +kernel
theorem dX7_never_25 : decode cX7_never 25 = .ok (.iconst 0, 1) := by decide +kernel
theorem dX7_never_26 : decode cX7_never 26 = .ok (.iaload, 1) := by decide +kernel
theorem dX7_never_27 : decode cX7_never 27 = .ok (.if_icmp .ge 61, 3) := by decide +kernel
theorem dX7_never_30 : decode cX7_never 30 = .ok (.iload_n 3, 1) := by decide +kernel
theorem dX7_never_31 : decode cX7_never 31 = .ok (.ifCond .ne 45, 3) := by decide +kernel
theorem dX7_never_34 : decode cX7_never 34 = .ok (.aload_n 0, 1) := by decide +kernel
theorem dX7_never_35 : decode cX7_never 35 = .ok (.iload_n 2, 1) := by decide +kernel
theorem dX7_never_36 : decode cX7_never 36 = .ok (.iload 4, 2) := by decide +kernel
theorem dX7_never_38 : decode cX7_never 38 = .ok (.invokevirtual 139, 3) := by decide +kernel
theorem dX7_never_41 : decode cX7_never 41 = .ok (.ifCond .eq 39, 3) := by decide +kernel
theorem dX7_never_44 : decode cX7_never 44 = .ok (.aload_n 0, 1) := by decide +kernel
theorem dX7_never_45 : decode cX7_never 45 = .ok (.getfield 22, 3) := by decide +kernel
theorem dX7_never_48 : decode cX7_never 48 = .ok (.bipush 59, 2) := by decide +kernel
theorem dX7_never_50 : decode cX7_never 50 = .ok (.iload_n 2, 1) := by decide +kernel
theorem dX7_never_51 : decode cX7_never 51 = .ok (.iadd, 1) := by decide +kernel
theorem dX7_never_52 : decode cX7_never 52 = .ok (.iaload, 1) := by decide +kernel
theorem dX7_never_53 : decode cX7_never 53 = .ok (.bipush (-9), 2) := by decide +kernel
theorem dX7_never_55 : decode cX7_never 55 = .ok (.if_icmp .eq 21, 3) := by decide +kernel
theorem dX7_never_58 : decode cX7_never 58 = .ok (.aload_n 0, 1) := by decide +kernel
theorem dX7_never_59 : decode cX7_never 59 = .ok (.getfield 22, 3) := by decide +kernel
theorem dX7_never_62 : decode cX7_never 62 = .ok (.bipush 59, 2) := by decide +kernel
theorem dX7_never_64 : decode cX7_never 64 = .ok (.iload_n 2, 1) := by decide +kernel
theorem dX7_never_65 : decode cX7_never 65 = .ok (.iadd, 1) := by decide +kernel
theorem dX7_never_66 : decode cX7_never 66 = .ok (.iaload, 1) := by decide +kernel
theorem dX7_never_67 : decode cX7_never 67 = .ok (.aload_n 0, 1) := by decide +kernel
theorem dX7_never_68 : decode cX7_never 68 = .ok (.iload 4, 2) := by decide +kernel
theorem dX7_never_70 : decode cX7_never 70 = .ok (.invokevirtual 120, 3) := by decide +kernel
theorem dX7_never_73 : decode cX7_never 73 = .ok (.if_icmp .ne 7, 3) := by decide +kernel
theorem dX7_never_76 : decode cX7_never 76 = .ok (.iconst 1, 1) := by decide +kernel
theorem dX7_never_77 : decode cX7_never 77 = .ok (.goto 4, 3) := by decide +kernel
theorem dX7_never_80 : decode cX7_never 80 = .ok (.iconst 0, 1) := by decide +kernel
theorem dX7_never_81 : decode cX7_never 81 = .ok (.istore_n 3, 1) := by decide +kernel
theorem dX7_never_82 : decode cX7_never 82 = .ok (.iinc 4 1, 3) := by decide +kernel
theorem dX7_never_85 : decode cX7_never 85 = .ok (.goto (-66), 3) := by decide +kernel
theorem dX7_never_88 : decode cX7_never 88 = .ok (.iload_n 1, 1) := by decide +kernel
theorem dX7_never_89 : decode cX7_never 89 = .ok (.iload_n 3, 1) := by decide +kernel
theorem dX7_never_90 : decode cX7_never 90 = .ok (.ifCond .eq 7, 3) := by decide +kernel
theorem dX7_never_93 : decode cX7_never 93 = .ok (.iconst 0, 1) := by decide +kernel
theorem dX7_never_94 : decode cX7_never 94 = .ok (.goto 6, 3) := by decide +kernel
theorem dX7_never_97 : decode cX7_never 97 = .ok (.iconst 1, 1) := by decide +kernel
theorem dX7_never_98 : decode cX7_never 98 = .ok (.iload_n 2, 1) := by decide +kernel
theorem dX7_never_99 : decode cX7_never 99 = .ok (.ishl, 1) := by decide +kernel
theorem dX7_never_100 : decode cX7_never 100 = .ok (.ior, 1) := by decide +kernel
theorem dX7_never_101 : decode cX7_never 101 = .ok (.istore_n 1, 1) := by decide +kernel
theorem dX7_never_102 : decode cX7_never 102 = .ok (.iinc 2 1, 3) := by decide +kernel
theorem dX7_never_105 : decode cX7_never 105 = .ok (.goto (-101), 3) := by decide +kernel
theorem dX7_never_108 : decode cX7_never 108 = .ok (.iload_n 1, 1) := by decide +kernel
theorem dX7_never_109 : decode cX7_never 109 = .ok (.ireturn, 1) := by decide +kernel
def F_X7_never_L19 (n : Nat) (S : aSt) (a0 : Nat) (l4_2 : Int32) (k6 : Nat) (K88 : Int32 → Option Int32) : Nat → Int32 → Int32 → Option Int32
  | 0, _, _ => none
  | fu + 1, l19_3, l19_4 =>
    grd (inb (0 : Int32) (SH k6).2) <|
    if (S.1 k6 (0 : Int32).toNatClampNeg) ≤ l19_4 then (K88 l19_3) else
    jn (fun (j81s0 : Int32) => (F_X7_never_L19 n S a0 l4_2 k6 K88 fu j81s0 (l19_4 + (1 : Int32)) : Option Int32)) fun K81 =>
    jn ((K81 (1 : Int32) : Option Int32)) fun K76 =>
    if l19_3 = 0 then ((F_X7_isFit n S a0 l4_2 l19_4).bind fun r38 =>
    jn ((K81 (0 : Int32) : Option Int32)) fun K80 =>
    if r38 = 0 then (K80) else
    grd (inb ((59 : Int32) + l4_2) (SH k6).2) <|
    if (S.1 k6 ((59 : Int32) + l4_2).toNatClampNeg) = (-9 : Int32) then (K76) else
    grd (inb ((59 : Int32) + l4_2) (SH k6).2) <|
    (F_X7_means n S a0 l19_4).bind fun r70 =>
    if (S.1 k6 ((59 : Int32) + l4_2).toNatClampNeg) = r70 then (K76) else
    K80) else
    K76
def F_X7_never_L4 (n : Nat) (S : aSt) (a0 : Nat) (K108 : Int32 → Option Int32) : Nat → Int32 → Int32 → Option Int32
  | 0, _, _ => none
  | fu + 1, l4_1, l4_2 =>
    rfd (S.2.2 a0 4) 7 fun k6 =>
    grd (inb (1 : Int32) (SH k6).2) <|
    if (S.1 k6 (1 : Int32).toNatClampNeg) ≤ l4_2 then (K108 l4_1) else
    jn (fun (x88_3 : Int32) => (jn (fun (j100s1 : Int32) => (nm (l4_1 ||| j100s1) fun v101 =>
    F_X7_never_L4 n S a0 K108 fu v101 (l4_2 + (1 : Int32)) : Option Int32)) fun K100 =>
    if x88_3 = 0 then (K100 ((1 : Int32) <<< (l4_2 &&& 31))) else
    K100 (0 : Int32) : Option Int32)) fun K88 =>
    F_X7_never_L19 n S a0 l4_2 k6 K88 n (0 : Int32) (0 : Int32)
def F_X7_never (n : Nat) (S : aSt) (a0 : Nat) : Option Int32 :=
jn (fun (x108_1 : Int32) => (some x108_1 : Option Int32)) fun K108 =>
F_X7_never_L4 n S a0 K108 n (0 : Int32) (0 : Int32)
set_option maxHeartbeats 4000000 in
set_option maxRecDepth 100000 in
theorem C_X7_never (G : aG) (l : Launch) (n : Nat) (S : aSt) (a0 : Nat) (r : Int32) (ha0 : isT a0 6 = true) (hf : F_X7_never n S a0 = some r) : Ctr G l yX7_never mX7_never (rmM 4) 97 97 S [.ref a0] (some (.int r)) S := by
  refine Ctr.of (by decide) rfl rfl (Nat.le_of_ble_eq_true rfl) [(0, .ref a0)] rfl ?_
  unfold F_X7_never at hf
  refine Go.iconst (0 : Int32) 1 rfl dX7_never_0 ci_0 ?_
  refine Go.istore_n 2 [(1, .int (0 : Int32)), (0, .ref a0)] rfl dX7_never_1 (by decide) rfl ?_
  refine Go.iconst (0 : Int32) 3 rfl dX7_never_2 ci_0 ?_
  refine Go.istore_n 4 [(2, .int (0 : Int32)), (1, .int (0 : Int32)), (0, .ref a0)] rfl dX7_never_3 (by decide) rfl ?_
  obtain ⟨K108, eK108, hf⟩ := f_jn hf
  have J108 : ∀ (x108_1 : Int32), K108 x108_1 = some r → GoM G l 4 (TmR G (some (.int r)) 97 S 0 0) mX7_never 108 [(1, .int x108_1)] [] S := by
    intro x108_1 hf
    rw [eK108] at hf
    refine Go.iload_n 0 109 rfl dX7_never_108 rfl ?_
    exact Go.ir rfl dX7_never_109 hf
  clear eK108
  have L4 : ∀ (fu : Nat) (l4_1 : Int32) (l4_2 : Int32), F_X7_never_L4 n S a0 K108 fu l4_1 l4_2 = some r → GoM G l 4 (TmR G (some (.int r)) 97 S 0 0) mX7_never 4 [(0, .ref a0), (1, .int l4_1), (2, .int l4_2)] [] S := by
    intro fu
    induction fu with
    | zero => intro l4_1 l4_2 hf; rw [F_X7_never_L4] at hf; cases hf
    | succ fu ih =>
      intro l4_1 l4_2 hf
      rw [F_X7_never_L4] at hf
      refine Go.iload_n 2 5 rfl dX7_never_4 rfl ?_
      refine Go.aload_n 0 6 rfl dX7_never_5 rfl ?_
      obtain ⟨k6, qk6, hk6, hf⟩ := f_rfd hf
      refine Go.getR 9 rfl dX7_never_6 fl_X7_22 rfl (isT_lt ha0) (isT_sh ha0) qk6 ?_
      refine Go.iconst (1 : Int32) 10 rfl dX7_never_9 ci_1 ?_
      obtain ⟨g10, hf⟩ := f_grd hf
      refine Go.iald 11 rfl dX7_never_10 (isT_lt hk6) (isT_sh hk6) g10 ?_
      refine Go.icmp_ge 108 14 rfl dX7_never_11 rfl (fun hc => ?_) (fun hc => ?_)
      · replace hf := f_if hf hc
        exact Go.sub [1] [(1, .int l4_1)] rfl (J108 l4_1 hf)
      · replace hf := f_el hf hc
        refine Go.iconst (0 : Int32) 15 rfl dX7_never_14 ci_0 ?_
        refine Go.istore_n 16 [(3, .int (0 : Int32)), (0, .ref a0), (1, .int l4_1), (2, .int l4_2)] rfl dX7_never_15 (by decide) rfl ?_
        refine Go.iconst (0 : Int32) 17 rfl dX7_never_16 ci_0 ?_
        refine Go.istore 19 [(4, .int (0 : Int32)), (3, .int (0 : Int32)), (0, .ref a0), (1, .int l4_1), (2, .int l4_2)] rfl dX7_never_17 (by decide) rfl ?_
        obtain ⟨K88, eK88, hf⟩ := f_jn hf
        have J88 : ∀ (x88_3 : Int32), K88 x88_3 = some r → GoM G l 4 (TmR G (some (.int r)) 97 S 0 0) mX7_never 88 [(0, .ref a0), (1, .int l4_1), (2, .int l4_2), (3, .int x88_3)] [] S := by
          intro x88_3 hf
          rw [eK88] at hf
          refine Go.iload_n 1 89 rfl dX7_never_88 rfl ?_
          refine Go.iload_n 3 90 rfl dX7_never_89 rfl ?_
          obtain ⟨K100, eK100, hf⟩ := f_jn hf
          have J100 : ∀ (j100s1 : Int32), K100 j100s1 = some r → GoM G l 4 (TmR G (some (.int r)) 97 S 0 0) mX7_never 100 [(0, .ref a0), (2, .int l4_2)] [.int j100s1, .int l4_1] S := by
            intro j100s1 hf
            rw [eK100] at hf
            refine Go.ior 101 rfl dX7_never_100 ?_
            obtain ⟨v101, ev101, hf⟩ := f_nm hf
            refine Go.topi v101 ev101 ?_
            refine Go.istore_n 102 [(1, .int v101), (0, .ref a0), (2, .int l4_2)] rfl dX7_never_101 (by decide) rfl ?_
            refine Go.inc 2 105 (1 : Int32) [(2, .int (l4_2 + (1 : Int32))), (1, .int v101), (0, .ref a0)] rfl dX7_never_102 rfl ci_1 (by decide) rfl ?_
            refine Go.goto 4 dX7_never_105 rfl ?_
            exact Go.sub [2, 1, 0] [(0, .ref a0), (1, .int v101), (2, .int (l4_2 + (1 : Int32)))] rfl (ih v101 (l4_2 + (1 : Int32)) hf)
          clear eK100
          refine Go.if_eq 97 93 rfl dX7_never_90 rfl (fun hc => ?_) (fun hc => ?_)
          · replace hf := f_if hf hc
            refine Go.iconst (1 : Int32) 98 rfl dX7_never_97 ci_1 ?_
            refine Go.iload_n 2 99 rfl dX7_never_98 rfl ?_
            refine Go.ishl 100 rfl dX7_never_99 ?_
            exact Go.sub [0, 2] [(0, .ref a0), (2, .int l4_2)] rfl (J100 ((1 : Int32) <<< (l4_2 &&& 31)) hf)
          · replace hf := f_el hf hc
            refine Go.iconst (0 : Int32) 94 rfl dX7_never_93 ci_0 ?_
            refine Go.goto 100 dX7_never_94 rfl ?_
            exact Go.sub [0, 2] [(0, .ref a0), (2, .int l4_2)] rfl (J100 (0 : Int32) hf)
        clear eK88
        have L19 : ∀ (fu : Nat) (l19_3 : Int32) (l19_4 : Int32), F_X7_never_L19 n S a0 l4_2 k6 K88 fu l19_3 l19_4 = some r → GoM G l 4 (TmR G (some (.int r)) 97 S 0 0) mX7_never 19 [(0, .ref a0), (1, .int l4_1), (2, .int l4_2), (3, .int l19_3), (4, .int l19_4)] [] S := by
          intro fu
          induction fu with
          | zero => intro l19_3 l19_4 hf; rw [F_X7_never_L19] at hf; cases hf
          | succ fu ih =>
            intro l19_3 l19_4 hf
            rw [F_X7_never_L19] at hf
            refine Go.iload 4 21 rfl dX7_never_19 rfl ?_
            refine Go.aload_n 0 22 rfl dX7_never_21 rfl ?_
            refine Go.getR 25 rfl dX7_never_22 fl_X7_22 rfl (isT_lt ha0) (isT_sh ha0) qk6 ?_
            refine Go.iconst (0 : Int32) 26 rfl dX7_never_25 ci_0 ?_
            obtain ⟨g26, hf⟩ := f_grd hf
            refine Go.iald 27 rfl dX7_never_26 (isT_lt hk6) (isT_sh hk6) g26 ?_
            refine Go.icmp_ge 88 30 rfl dX7_never_27 rfl (fun hc => ?_) (fun hc => ?_)
            · replace hf := f_if hf hc
              exact Go.sub [0, 1, 2, 3] [(0, .ref a0), (1, .int l4_1), (2, .int l4_2), (3, .int l19_3)] rfl (J88 l19_3 hf)
            · replace hf := f_el hf hc
              refine Go.iload_n 3 31 rfl dX7_never_30 rfl ?_
              obtain ⟨K81, eK81, hf⟩ := f_jn hf
              have J81 : ∀ (j81s0 : Int32), K81 j81s0 = some r → GoM G l 4 (TmR G (some (.int r)) 97 S 0 0) mX7_never 81 [(0, .ref a0), (1, .int l4_1), (2, .int l4_2), (4, .int l19_4)] [.int j81s0] S := by
                intro j81s0 hf
                rw [eK81] at hf
                refine Go.istore_n 82 [(3, .int j81s0), (0, .ref a0), (1, .int l4_1), (2, .int l4_2), (4, .int l19_4)] rfl dX7_never_81 (by decide) rfl ?_
                refine Go.inc 4 85 (1 : Int32) [(4, .int (l19_4 + (1 : Int32))), (3, .int j81s0), (0, .ref a0), (1, .int l4_1), (2, .int l4_2)] rfl dX7_never_82 rfl ci_1 (by decide) rfl ?_
                refine Go.goto 19 dX7_never_85 rfl ?_
                exact Go.sub [2, 3, 4, 1, 0] [(0, .ref a0), (1, .int l4_1), (2, .int l4_2), (3, .int j81s0), (4, .int (l19_4 + (1 : Int32)))] rfl (ih j81s0 (l19_4 + (1 : Int32)) hf)
              clear eK81
              obtain ⟨K76, eK76, hf⟩ := f_jn hf
              have J76 : K76 = some r → GoM G l 4 (TmR G (some (.int r)) 97 S 0 0) mX7_never 76 [(0, .ref a0), (1, .int l4_1), (2, .int l4_2), (4, .int l19_4)] [] S := by
                intro hf
                rw [eK76] at hf
                refine Go.iconst (1 : Int32) 77 rfl dX7_never_76 ci_1 ?_
                refine Go.goto 81 dX7_never_77 rfl ?_
                exact J81 (1 : Int32) hf
              clear eK76
              refine Go.if_ne 76 34 rfl dX7_never_31 rfl (fun hc => ?_) (fun hc => ?_)
              · replace hf := f_el hf hc
                exact Go.sub [0, 1, 2, 4] [(0, .ref a0), (1, .int l4_1), (2, .int l4_2), (4, .int l19_4)] rfl (J76 hf)
              · replace hf := f_if hf hc
                refine Go.aload_n 0 35 rfl dX7_never_34 rfl ?_
                refine Go.iload_n 2 36 rfl dX7_never_35 rfl ?_
                refine Go.iload 4 38 rfl dX7_never_36 rfl ?_
                obtain ⟨r38, er38, hf⟩ := f_bnd hf
                refine Go.cV 41 [.int l4_2, .int l19_4] [] (C_X7_isFit G l n S a0 l4_2 l19_4 r38 ha0 er38) rfl dX7_never_38 cv_X7_139 ha0 (by decide) (by decide) rfl (Nat.le_of_ble_eq_true rfl) ?_
                obtain ⟨K80, eK80, hf⟩ := f_jn hf
                have J80 : K80 = some r → GoM G l 4 (TmR G (some (.int r)) 97 S 0 0) mX7_never 80 [(0, .ref a0), (1, .int l4_1), (2, .int l4_2), (4, .int l19_4)] [] S := by
                  intro hf
                  rw [eK80] at hf
                  refine Go.iconst (0 : Int32) 81 rfl dX7_never_80 ci_0 ?_
                  exact J81 (0 : Int32) hf
                clear eK80
                refine Go.if_eq 80 44 rfl dX7_never_41 rfl (fun hc => ?_) (fun hc => ?_)
                · replace hf := f_if hf hc
                  exact Go.sub [0, 1, 2, 4] [(0, .ref a0), (1, .int l4_1), (2, .int l4_2), (4, .int l19_4)] rfl (J80 hf)
                · replace hf := f_el hf hc
                  refine Go.aload_n 0 45 rfl dX7_never_44 rfl ?_
                  refine Go.getR 48 rfl dX7_never_45 fl_X7_22 rfl (isT_lt ha0) (isT_sh ha0) qk6 ?_
                  refine Go.bipush (59 : Int32) 50 rfl dX7_never_48 cb_59 ?_
                  refine Go.iload_n 2 51 rfl dX7_never_50 rfl ?_
                  refine Go.iadd 52 rfl dX7_never_51 ?_
                  obtain ⟨g52, hf⟩ := f_grd hf
                  refine Go.iald 53 rfl dX7_never_52 (isT_lt hk6) (isT_sh hk6) g52 ?_
                  refine Go.bipush (-9 : Int32) 55 rfl dX7_never_53 cb_m9 ?_
                  refine Go.icmp_eq 76 58 rfl dX7_never_55 rfl (fun hc => ?_) (fun hc => ?_)
                  · replace hf := f_if hf hc
                    exact Go.sub [0, 1, 2, 4] [(0, .ref a0), (1, .int l4_1), (2, .int l4_2), (4, .int l19_4)] rfl (J76 hf)
                  · replace hf := f_el hf hc
                    refine Go.aload_n 0 59 rfl dX7_never_58 rfl ?_
                    refine Go.getR 62 rfl dX7_never_59 fl_X7_22 rfl (isT_lt ha0) (isT_sh ha0) qk6 ?_
                    refine Go.bipush (59 : Int32) 64 rfl dX7_never_62 cb_59 ?_
                    refine Go.iload_n 2 65 rfl dX7_never_64 rfl ?_
                    refine Go.iadd 66 rfl dX7_never_65 ?_
                    obtain ⟨g66, hf⟩ := f_grd hf
                    refine Go.iald 67 rfl dX7_never_66 (isT_lt hk6) (isT_sh hk6) g66 ?_
                    refine Go.aload_n 0 68 rfl dX7_never_67 rfl ?_
                    refine Go.iload 4 70 rfl dX7_never_68 rfl ?_
                    obtain ⟨r70, er70, hf⟩ := f_bnd hf
                    refine Go.cV 73 [.int l19_4] [.int (S.1 k6 ((59 : Int32) + l4_2).toNatClampNeg)] (C_X7_means G l n S a0 l19_4 r70 ha0 er70) rfl dX7_never_70 cv_X7_120 ha0 (by decide) (by decide) rfl (Nat.le_of_ble_eq_true rfl) ?_
                    refine Go.icmp_ne 80 76 rfl dX7_never_73 rfl (fun hc => ?_) (fun hc => ?_)
                    · replace hf := f_el hf hc
                      exact Go.sub [0, 1, 2, 4] [(0, .ref a0), (1, .int l4_1), (2, .int l4_2), (4, .int l19_4)] rfl (J80 hf)
                    · replace hf := f_if hf hc
                      exact Go.sub [0, 1, 2, 4] [(0, .ref a0), (1, .int l4_1), (2, .int l4_2), (4, .int l19_4)] rfl (J76 hf)
        exact Go.sub [2, 3, 4, 1, 0] [(0, .ref a0), (1, .int l4_1), (2, .int l4_2), (3, .int (0 : Int32)), (4, .int (0 : Int32))] rfl (L19 n (0 : Int32) (0 : Int32) hf)
  exact Go.sub [2, 1, 0] [(0, .ref a0), (1, .int (0 : Int32)), (2, .int (0 : Int32))] rfl (L4 n (0 : Int32) (0 : Int32) hf)
theorem dX7_manyFit_0 : decode cX7_manyFit 0 = .ok (.iconst 0, 1) := by decide +kernel
theorem dX7_manyFit_1 : decode cX7_manyFit 1 = .ok (.istore 4, 2) := by decide +kernel
theorem dX7_manyFit_3 : decode cX7_manyFit 3 = .ok (.iconst 0, 1) := by decide +kernel
theorem dX7_manyFit_4 : decode cX7_manyFit 4 = .ok (.istore 5, 2) := by decide +kernel
theorem dX7_manyFit_6 : decode cX7_manyFit 6 = .ok (.iload 5, 2) := by decide +kernel
theorem dX7_manyFit_8 : decode cX7_manyFit 8 = .ok (.aload_n 0, 1) := by decide +kernel
theorem dX7_manyFit_9 : decode cX7_manyFit 9 = .ok (.getfield 22, 3) := by decide +kernel
theorem dX7_manyFit_12 : decode cX7_manyFit 12 = .ok (.iconst 0, 1) := by decide +kernel
theorem dX7_manyFit_13 : decode cX7_manyFit 13 = .ok (.iaload, 1) := by decide +kernel
theorem dX7_manyFit_14 : decode cX7_manyFit 14 = .ok (.if_icmp .ge 31, 3) := by decide +kernel
theorem dX7_manyFit_17 : decode cX7_manyFit 17 = .ok (.iload 4, 2) := by decide +kernel
theorem dX7_manyFit_19 : decode cX7_manyFit 19 = .ok (.aload_n 0, 1) := by decide +kernel
theorem dX7_manyFit_20 : decode cX7_manyFit 20 = .ok (.iload 5, 2) := by decide +kernel
theorem dX7_manyFit_22 : decode cX7_manyFit 22 = .ok (.iload_n 1, 1) := by decide +kernel
theorem dX7_manyFit_23 : decode cX7_manyFit 23 = .ok (.iload_n 2, 1) := by decide +kernel
theorem dX7_manyFit_24 : decode cX7_manyFit 24 = .ok (.iload_n 3, 1) := by decide +kernel
theorem dX7_manyFit_25 : decode cX7_manyFit 25 = .ok (.invokevirtual 123, 3) := by decide +kernel
theorem dX7_manyFit_28 : decode cX7_manyFit 28 = .ok (.ifCond .eq 7, 3) := by decide +kernel
theorem dX7_manyFit_31 : decode cX7_manyFit 31 = .ok (.iconst 1, 1) := by decide +kernel
theorem dX7_manyFit_32 : decode cX7_manyFit 32 = .ok (.goto 4, 3) := by decide +kernel
theorem dX7_manyFit_35 : decode cX7_manyFit 35 = .ok (.iconst 0, 1) := by decide +kernel
theorem dX7_manyFit_36 : decode cX7_manyFit 36 = .ok (.iadd, 1) := by decide +kernel
theorem dX7_manyFit_37 : decode cX7_manyFit 37 = .ok (.istore 4, 2) := by decide +kernel
theorem dX7_manyFit_39 : decode cX7_manyFit 39 = .ok (.iinc 5 1, 3) := by decide +kernel
theorem dX7_manyFit_42 : decode cX7_manyFit 42 = .ok (.goto (-36), 3) := by decide +kernel
theorem dX7_manyFit_45 : decode cX7_manyFit 45 = .ok (.iload 4, 2) := by decide +kernel
theorem dX7_manyFit_47 : decode cX7_manyFit 47 = .ok (.ireturn, 1) := by decide +kernel
def F_X7_manyFit_L6 (n : Nat) (S : aSt) (a0 : Nat) (a1 : Int32) (a2 : Int32) (a3 : Int32) (K45 : Int32 → Option Int32) : Nat → Int32 → Int32 → Option Int32
  | 0, _, _ => none
  | fu + 1, l6_4, l6_5 =>
    rfd (S.2.2 a0 4) 7 fun k9 =>
    grd (inb (0 : Int32) (SH k9).2) <|
    if (S.1 k9 (0 : Int32).toNatClampNeg) ≤ l6_5 then (K45 l6_4) else
    (F_X7_suits n S a0 l6_5 a1 a2 a3).bind fun r25 =>
    jn (fun (j36s1 : Int32) => (nm (l6_4 + j36s1) fun v37 =>
    F_X7_manyFit_L6 n S a0 a1 a2 a3 K45 fu v37 (l6_5 + (1 : Int32)) : Option Int32)) fun K36 =>
    if r25 = 0 then (K36 (0 : Int32)) else
    K36 (1 : Int32)
def F_X7_manyFit (n : Nat) (S : aSt) (a0 : Nat) (a1 : Int32) (a2 : Int32) (a3 : Int32) : Option Int32 :=
jn (fun (x45_4 : Int32) => (some x45_4 : Option Int32)) fun K45 =>
F_X7_manyFit_L6 n S a0 a1 a2 a3 K45 n (0 : Int32) (0 : Int32)
set_option maxHeartbeats 4000000 in
set_option maxRecDepth 100000 in
theorem C_X7_manyFit (G : aG) (l : Launch) (n : Nat) (S : aSt) (a0 : Nat) (a1 : Int32) (a2 : Int32) (a3 : Int32) (r : Int32) (ha0 : isT a0 6 = true) (hf : F_X7_manyFit n S a0 a1 a2 a3 = some r) : Ctr G l yX7_manyFit mX7_manyFit (rmM 3) 97 97 S [.ref a0, .int a1, .int a2, .int a3] (some (.int r)) S := by
  refine Ctr.of (by decide) rfl rfl (Nat.le_of_ble_eq_true rfl) [(0, .ref a0), (1, .int a1), (2, .int a2), (3, .int a3)] rfl ?_
  unfold F_X7_manyFit at hf
  refine Go.iconst (0 : Int32) 1 rfl dX7_manyFit_0 ci_0 ?_
  refine Go.istore 3 [(4, .int (0 : Int32)), (0, .ref a0), (1, .int a1), (2, .int a2), (3, .int a3)] rfl dX7_manyFit_1 (by decide) rfl ?_
  refine Go.iconst (0 : Int32) 4 rfl dX7_manyFit_3 ci_0 ?_
  refine Go.istore 6 [(5, .int (0 : Int32)), (4, .int (0 : Int32)), (0, .ref a0), (1, .int a1), (2, .int a2), (3, .int a3)] rfl dX7_manyFit_4 (by decide) rfl ?_
  obtain ⟨K45, eK45, hf⟩ := f_jn hf
  have J45 : ∀ (x45_4 : Int32), K45 x45_4 = some r → GoM G l 3 (TmR G (some (.int r)) 97 S 0 0) mX7_manyFit 45 [(4, .int x45_4)] [] S := by
    intro x45_4 hf
    rw [eK45] at hf
    refine Go.iload 0 47 rfl dX7_manyFit_45 rfl ?_
    exact Go.ir rfl dX7_manyFit_47 hf
  clear eK45
  have L6 : ∀ (fu : Nat) (l6_4 : Int32) (l6_5 : Int32), F_X7_manyFit_L6 n S a0 a1 a2 a3 K45 fu l6_4 l6_5 = some r → GoM G l 3 (TmR G (some (.int r)) 97 S 0 0) mX7_manyFit 6 [(0, .ref a0), (1, .int a1), (2, .int a2), (3, .int a3), (4, .int l6_4), (5, .int l6_5)] [] S := by
    intro fu
    induction fu with
    | zero => intro l6_4 l6_5 hf; rw [F_X7_manyFit_L6] at hf; cases hf
    | succ fu ih =>
      intro l6_4 l6_5 hf
      rw [F_X7_manyFit_L6] at hf
      refine Go.iload 5 8 rfl dX7_manyFit_6 rfl ?_
      refine Go.aload_n 0 9 rfl dX7_manyFit_8 rfl ?_
      obtain ⟨k9, qk9, hk9, hf⟩ := f_rfd hf
      refine Go.getR 12 rfl dX7_manyFit_9 fl_X7_22 rfl (isT_lt ha0) (isT_sh ha0) qk9 ?_
      refine Go.iconst (0 : Int32) 13 rfl dX7_manyFit_12 ci_0 ?_
      obtain ⟨g13, hf⟩ := f_grd hf
      refine Go.iald 14 rfl dX7_manyFit_13 (isT_lt hk9) (isT_sh hk9) g13 ?_
      refine Go.icmp_ge 45 17 rfl dX7_manyFit_14 rfl (fun hc => ?_) (fun hc => ?_)
      · replace hf := f_if hf hc
        exact Go.sub [4] [(4, .int l6_4)] rfl (J45 l6_4 hf)
      · replace hf := f_el hf hc
        refine Go.iload 4 19 rfl dX7_manyFit_17 rfl ?_
        refine Go.aload_n 0 20 rfl dX7_manyFit_19 rfl ?_
        refine Go.iload 5 22 rfl dX7_manyFit_20 rfl ?_
        refine Go.iload_n 1 23 rfl dX7_manyFit_22 rfl ?_
        refine Go.iload_n 2 24 rfl dX7_manyFit_23 rfl ?_
        refine Go.iload_n 3 25 rfl dX7_manyFit_24 rfl ?_
        obtain ⟨r25, er25, hf⟩ := f_bnd hf
        refine Go.cV 28 [.int l6_5, .int a1, .int a2, .int a3] [.int l6_4] (C_X7_suits G l n S a0 l6_5 a1 a2 a3 r25 ha0 er25) rfl dX7_manyFit_25 cv_X7_123 ha0 (by decide) (by decide) rfl (Nat.le_of_ble_eq_true rfl) ?_
        obtain ⟨K36, eK36, hf⟩ := f_jn hf
        have J36 : ∀ (j36s1 : Int32), K36 j36s1 = some r → GoM G l 3 (TmR G (some (.int r)) 97 S 0 0) mX7_manyFit 36 [(0, .ref a0), (1, .int a1), (2, .int a2), (3, .int a3), (5, .int l6_5)] [.int j36s1, .int l6_4] S := by
          intro j36s1 hf
          rw [eK36] at hf
          refine Go.iadd 37 rfl dX7_manyFit_36 ?_
          obtain ⟨v37, ev37, hf⟩ := f_nm hf
          refine Go.topi v37 ev37 ?_
          refine Go.istore 39 [(4, .int v37), (0, .ref a0), (1, .int a1), (2, .int a2), (3, .int a3), (5, .int l6_5)] rfl dX7_manyFit_37 (by decide) rfl ?_
          refine Go.inc 5 42 (1 : Int32) [(5, .int (l6_5 + (1 : Int32))), (4, .int v37), (0, .ref a0), (1, .int a1), (2, .int a2), (3, .int a3)] rfl dX7_manyFit_39 rfl ci_1 (by decide) rfl ?_
          refine Go.goto 6 dX7_manyFit_42 rfl ?_
          exact Go.sub [2, 3, 4, 5, 1, 0] [(0, .ref a0), (1, .int a1), (2, .int a2), (3, .int a3), (4, .int v37), (5, .int (l6_5 + (1 : Int32)))] rfl (ih v37 (l6_5 + (1 : Int32)) hf)
        clear eK36
        refine Go.if_eq 35 31 rfl dX7_manyFit_28 rfl (fun hc => ?_) (fun hc => ?_)
        · replace hf := f_if hf hc
          refine Go.iconst (0 : Int32) 36 rfl dX7_manyFit_35 ci_0 ?_
          exact Go.sub [0, 1, 2, 3, 5] [(0, .ref a0), (1, .int a1), (2, .int a2), (3, .int a3), (5, .int l6_5)] rfl (J36 (0 : Int32) hf)
        · replace hf := f_el hf hc
          refine Go.iconst (1 : Int32) 32 rfl dX7_manyFit_31 ci_1 ?_
          refine Go.goto 36 dX7_manyFit_32 rfl ?_
          exact Go.sub [0, 1, 2, 3, 5] [(0, .ref a0), (1, .int a1), (2, .int a2), (3, .int a3), (5, .int l6_5)] rfl (J36 (1 : Int32) hf)
  exact Go.sub [2, 3, 4, 5, 1, 0] [(0, .ref a0), (1, .int a1), (2, .int a2), (3, .int a3), (4, .int (0 : Int32)), (5, .int (0 : Int32))] rfl (L6 n (0 : Int32) (0 : Int32) hf)
theorem dX7_parts_0 : decode cX7_parts 0 = .ok (.aload_n 0, 1) := by decide +kernel
theorem dX7_parts_1 : decode cX7_parts 1 = .ok (.getfield 22, 3) := by decide +kernel
theorem dX7_parts_4 : decode cX7_parts 4 = .ok (.iconst 0, 1) := by decide +kernel
theorem dX7_parts_5 : decode cX7_parts 5 = .ok (.iaload, 1) := by decide +kernel
theorem dX7_parts_6 : decode cX7_parts 6 = .ok (.ifCond .ne 6, 3) := by decide +kernel
theorem dX7_parts_9 : decode cX7_parts 9 = .ok (.bipush (-4), 2) := by decide +kernel
theorem dX7_parts_11 : decode cX7_parts 11 = .ok (.ireturn, 1) := by decide +kernel
theorem dX7_parts_12 : decode cX7_parts 12 = .ok (.iconst 0, 1) := by decide +kernel
theorem dX7_parts_13 : decode cX7_parts 13 = .ok (.istore_n 1, 1) := by decide +kernel
theorem dX7_parts_14 : decode cX7_parts 14 = .ok (.bipush 99, 2) := by decide +kernel
theorem dX7_parts_16 : decode cX7_parts 16 = .ok (.istore_n 2, 1) := by decide +kernel
theorem dX7_parts_17 : decode cX7_parts 17 = .ok (.iconst 0, 1) := by decide +kernel
theorem dX7_parts_18 : decode cX7_parts 18 = .ok (.istore_n 3, 1) := by decide +kernel
theorem dX7_parts_19 : decode cX7_parts 19 = .ok (.iconst 0, 1) := by decide +kernel
theorem dX7_parts_20 : decode cX7_parts 20 = .ok (.istore 4, 2) := by decide +kernel
theorem dX7_parts_22 : decode cX7_parts 22 = .ok (.iload 4, 2) := by decide +kernel
theorem dX7_parts_24 : decode cX7_parts 24 = .ok (.sipush 600, 3) := by decide +kernel
theorem dX7_parts_27 : decode cX7_parts 27 = .ok (.if_icmp .ge 119, 3) := by decide +kernel
theorem dX7_parts_30 : decode cX7_parts 30 = .ok (.iload 4, 2) := by decide +kernel
theorem dX7_parts_32 : decode cX7_parts 32 = .ok (.bipush 10, 2) := by decide +kernel
theorem dX7_parts_34 : decode cX7_parts 34 = .ok (.idiv, 1) := by decide +kernel
theorem dX7_parts_35 : decode cX7_parts 35 = .ok (.bipush 10, 2) := by decide +kernel
theorem dX7_parts_37 : decode cX7_parts 37 = .ok (.irem, 1) := by decide +kernel
theorem dX7_parts_38 : decode cX7_parts 38 = .ok (.istore 5, 2) := by decide +kernel
theorem dX7_parts_40 : decode cX7_parts 40 = .ok (.iload 4, 2) := by decide +kernel
theorem dX7_parts_42 : decode cX7_parts 42 = .ok (.bipush 10, 2) := by decide +kernel
theorem dX7_parts_44 : decode cX7_parts 44 = .ok (.irem, 1) := by decide +kernel
theorem dX7_parts_45 : decode cX7_parts 45 = .ok (.istore 6, 2) := by decide +kernel
theorem dX7_parts_47 : decode cX7_parts 47 = .ok (.iload 6, 2) := by decide +kernel
theorem dX7_parts_49 : decode cX7_parts 49 = .ok (.iload 5, 2) := by decide +kernel
theorem dX7_parts_51 : decode cX7_parts 51 = .ok (.if_icmp .ge 6, 3) := by decide +kernel
theorem dX7_parts_54 : decode cX7_parts 54 = .ok (.goto 86, 3) := by decide +kernel
theorem dX7_parts_57 : decode cX7_parts 57 = .ok (.aload_n 0, 1) := by decide +kernel
theorem dX7_parts_58 : decode cX7_parts 58 = .ok (.iload 4, 2) := by decide +kernel
theorem dX7_parts_60 : decode cX7_parts 60 = .ok (.bipush 100, 2) := by decide +kernel
theorem dX7_parts_62 : decode cX7_parts 62 = .ok (.idiv, 1) := by decide +kernel
theorem dX7_parts_63 : decode cX7_parts 63 = .ok (.iload 5, 2) := by decide +kernel
theorem dX7_parts_65 : decode cX7_parts 65 = .ok (.iload 6, 2) := by decide +kernel
theorem dX7_parts_67 : decode cX7_parts 67 = .ok (.invokevirtual 191, 3) := by decide +kernel
theorem dX7_parts_70 : decode cX7_parts 70 = .ok (.istore 7, 2) := by decide +kernel
theorem dX7_parts_72 : decode cX7_parts 72 = .ok (.iconst 2, 1) := by decide +kernel
theorem dX7_parts_73 : decode cX7_parts 73 = .ok (.iload 7, 2) := by decide +kernel
theorem dX7_parts_75 : decode cX7_parts 75 = .ok (.imul, 1) := by decide +kernel
theorem dX7_parts_76 : decode cX7_parts 76 = .ok (.aload_n 0, 1) := by decide +kernel
theorem dX7_parts_77 : decode cX7_parts 77 = .ok (.getfield 22, 3) := by decide +kernel
theorem dX7_parts_80 : decode cX7_parts 80 = .ok (.iconst 0, 1) := by decide +kernel
theorem dX7_parts_81 : decode cX7_parts 81 = .ok (.iaload, 1) := by decide +kernel
theorem dX7_parts_82 : decode cX7_parts 82 = .ok (.if_icmp .le 17, 3) := by decide +kernel
theorem dX7_parts_85 : decode cX7_parts 85 = .ok (.iconst 2, 1) := by decide +kernel
theorem dX7_parts_86 : decode cX7_parts 86 = .ok (.iload 7, 2) := by decide +kernel
theorem dX7_parts_88 : decode cX7_parts 88 = .ok (.imul, 1) := by decide +kernel
theorem dX7_parts_89 : decode cX7_parts 89 = .ok (.aload_n 0, 1) := by decide +kernel
theorem dX7_parts_90 : decode cX7_parts 90 = .ok (.getfield 22, 3) := by decide +kernel
theorem dX7_parts_93 : decode cX7_parts 93 = .ok (.iconst 0, 1) := by decide +kernel
theorem dX7_parts_94 : decode cX7_parts 94 = .ok (.iaload, 1) := by decide +kernel
theorem dX7_parts_95 : decode cX7_parts 95 = .ok (.isub, 1) := by decide +kernel
theorem dX7_parts_96 : decode cX7_parts 96 = .ok (.goto 14, 3) := by decide +kernel
theorem dX7_parts_99 : decode cX7_parts 99 = .ok (.aload_n 0, 1) := by decide +kernel
theorem dX7_parts_100 : decode cX7_parts 100 = .ok (.getfield 22, 3) := by decide +kernel
theorem dX7_parts_103 : decode cX7_parts 103 = .ok (.iconst 0, 1) := by decide +kernel
theorem dX7_parts_104 : decode cX7_parts 104 = .ok (.iaload, 1) := by decide +kernel
theorem dX7_parts_105 : decode cX7_parts 105 = .ok (.iconst 2, 1) := by decide +kernel
theorem dX7_parts_106 : decode cX7_parts 106 = .ok (.iload 7, 2) := by decide +kernel
theorem dX7_parts_108 : decode cX7_parts 108 = .ok (.imul, 1) := by decide +kernel
theorem dX7_parts_109 : decode cX7_parts 109 = .ok (.isub, 1) := by decide +kernel
theorem dX7_parts_110 : decode cX7_parts 110 = .ok (.istore 8, 2) := by decide +kernel
theorem dX7_parts_112 : decode cX7_parts 112 = .ok (.bipush 10, 2) := by decide +kernel
theorem dX7_parts_114 : decode cX7_parts 114 = .ok (.iload 8, 2) := by decide +kernel
theorem dX7_parts_116 : decode cX7_parts 116 = .ok (.imul, 1) := by decide +kernel
theorem dX7_parts_117 : decode cX7_parts 117 = .ok (.iload 6, 2) := by decide +kernel
theorem dX7_parts_119 : decode cX7_parts 119 = .ok (.iadd, 1) := by decide +kernel
theorem dX7_parts_120 : decode cX7_parts 120 = .ok (.iload 5, 2) := by decide +kernel
theorem dX7_parts_122 : decode cX7_parts 122 = .ok (.isub, 1) := by decide +kernel
theorem dX7_parts_123 : decode cX7_parts 123 = .ok (.istore 9, 2) := by decide +kernel
theorem dX7_parts_125 : decode cX7_parts 125 = .ok (.iload 9, 2) := by decide +kernel
theorem dX7_parts_127 : decode cX7_parts 127 = .ok (.iload_n 2, 1) := by decide +kernel
theorem dX7_parts_128 : decode cX7_parts 128 = .ok (.if_icmp .ge 12, 3) := by decide +kernel
theorem dX7_parts_131 : decode cX7_parts 131 = .ok (.iload 9, 2) := by decide +kernel
theorem dX7_parts_133 : decode cX7_parts 133 = .ok (.istore_n 2, 1) := by decide +kernel
theorem dX7_parts_134 : decode cX7_parts 134 = .ok (.iload 4, 2) := by decide +kernel
theorem dX7_parts_136 : decode cX7_parts 136 = .ok (.istore_n 1, 1) := by decide +kernel
theorem dX7_parts_137 : decode cX7_parts 137 = .ok (.iload 7, 2) := by decide +kernel
theorem dX7_parts_139 : decode cX7_parts 139 = .ok (.istore_n 3, 1) := by decide +kernel
theorem dX7_parts_140 : decode cX7_parts 140 = .ok (.iinc 4 1, 3) := by decide +kernel
theorem dX7_parts_143 : decode cX7_parts 143 = .ok (.goto (-121), 3) := by decide +kernel
theorem dX7_parts_146 : decode cX7_parts 146 = .ok (.aload_n 0, 1) := by decide +kernel
theorem dX7_parts_147 : decode cX7_parts 147 = .ok (.iload_n 3, 1) := by decide +kernel
theorem dX7_parts_148 : decode cX7_parts 148 = .ok (.invokevirtual 80, 3) := by decide +kernel
theorem dX7_parts_151 : decode cX7_parts 151 = .ok (.istore 4, 2) := by decide +kernel
theorem dX7_parts_153 : decode cX7_parts 153 = .ok (.iload_n 1, 1) := by decide +kernel
theorem dX7_parts_154 : decode cX7_parts 154 = .ok (.ireturn, 1) := by decide +kernel
def F_X7_parts_L22 (n : Nat) (S : aSt) (a0 : Nat) (k1 : Nat) (K146 : Int32 → Int32 → Option (Int32 × aSt)) : Nat → Int32 → Int32 → Int32 → Int32 → Option (Int32 × aSt)
  | 0, _, _, _, _ => none
  | fu + 1, l22_1, l22_2, l22_3, l22_4 =>
    if (600 : Int32) ≤ l22_4 then (K146 l22_1 l22_3) else
    nm ((l22_4 / (10 : Int32)) - (l22_4 / (10 : Int32)) / (10 : Int32) * (10 : Int32)) fun v38 =>
    nm (l22_4 - l22_4 / (10 : Int32) * (10 : Int32)) fun v45 =>
    jn (fun (j140_1 : Int32) (j140_2 : Int32) (j140_3 : Int32) => (F_X7_parts_L22 n S a0 k1 K146 fu j140_1 j140_2 j140_3 (l22_4 + (1 : Int32)) : Option (Int32 × aSt))) fun K140 =>
    if v38 ≤ v45 then ((F_X7_manyFit n S a0 (l22_4 / (100 : Int32)) v38 v45).bind fun r67 =>
    grd (inb (0 : Int32) (SH k1).2) <|
    jn (fun (j110s0 : Int32) => (nm ((((10 : Int32) * j110s0) + v45) - v38) fun v123 =>
    if l22_2 ≤ v123 then (K140 l22_1 l22_2 l22_3) else
    K140 l22_4 v123 r67 : Option (Int32 × aSt))) fun K110 =>
    if ((2 : Int32) * r67) ≤ (S.1 k1 (0 : Int32).toNatClampNeg) then (grd (inb (0 : Int32) (SH k1).2) <|
    K110 ((S.1 k1 (0 : Int32).toNatClampNeg) - ((2 : Int32) * r67))) else
    grd (inb (0 : Int32) (SH k1).2) <|
    K110 (((2 : Int32) * r67) - (S.1 k1 (0 : Int32).toNatClampNeg))) else
    K140 l22_1 l22_2 l22_3
def F_X7_parts (n : Nat) (S : aSt) (a0 : Nat) : Option (Int32 × aSt) :=
rfd (S.2.2 a0 4) 7 fun k1 =>
grd (inb (0 : Int32) (SH k1).2) <|
if (S.1 k1 (0 : Int32).toNatClampNeg) = 0 then (some ((-4 : Int32), S)) else
jn (fun (x146_1 : Int32) (x146_3 : Int32) => (bn2 (F_X7_tell n S a0 x146_3) fun r148 S148 =>
some (x146_1, S148) : Option (Int32 × aSt))) fun K146 =>
F_X7_parts_L22 n S a0 k1 K146 n (0 : Int32) (99 : Int32) (0 : Int32) (0 : Int32)
set_option maxHeartbeats 4000000 in
set_option maxRecDepth 100000 in
theorem C_X7_parts (G : aG) (l : Launch) (n : Nat) (S : aSt) (a0 : Nat) (r : Int32) (Sr : aSt) (ha0 : isT a0 6 = true) (hf : F_X7_parts n S a0 = some (r, Sr)) : Ctr G l yX7_parts mX7_parts (rmM 4) 97 97 S [.ref a0] (some (.int r)) Sr := by
  refine Ctr.of (by decide) rfl rfl (Nat.le_of_ble_eq_true rfl) [(0, .ref a0)] rfl ?_
  unfold F_X7_parts at hf
  refine Go.aload_n 0 1 rfl dX7_parts_0 rfl ?_
  obtain ⟨k1, qk1, hk1, hf⟩ := f_rfd hf
  refine Go.getR 4 rfl dX7_parts_1 fl_X7_22 rfl (isT_lt ha0) (isT_sh ha0) qk1 ?_
  refine Go.iconst (0 : Int32) 5 rfl dX7_parts_4 ci_0 ?_
  obtain ⟨g5, hf⟩ := f_grd hf
  refine Go.iald 6 rfl dX7_parts_5 (isT_lt hk1) (isT_sh hk1) g5 ?_
  refine Go.if_ne 12 9 rfl dX7_parts_6 rfl (fun hc => ?_) (fun hc => ?_)
  · replace hf := f_el hf hc
    refine Go.iconst (0 : Int32) 13 rfl dX7_parts_12 ci_0 ?_
    refine Go.istore_n 14 [(1, .int (0 : Int32)), (0, .ref a0)] rfl dX7_parts_13 (by decide) rfl ?_
    refine Go.bipush (99 : Int32) 16 rfl dX7_parts_14 cb_99 ?_
    refine Go.istore_n 17 [(2, .int (99 : Int32)), (1, .int (0 : Int32)), (0, .ref a0)] rfl dX7_parts_16 (by decide) rfl ?_
    refine Go.iconst (0 : Int32) 18 rfl dX7_parts_17 ci_0 ?_
    refine Go.istore_n 19 [(3, .int (0 : Int32)), (2, .int (99 : Int32)), (1, .int (0 : Int32)), (0, .ref a0)] rfl dX7_parts_18 (by decide) rfl ?_
    refine Go.iconst (0 : Int32) 20 rfl dX7_parts_19 ci_0 ?_
    refine Go.istore 22 [(4, .int (0 : Int32)), (3, .int (0 : Int32)), (2, .int (99 : Int32)), (1, .int (0 : Int32)), (0, .ref a0)] rfl dX7_parts_20 (by decide) rfl ?_
    obtain ⟨K146, eK146, hf⟩ := f_jn hf
    have J146 : ∀ (x146_1 : Int32) (x146_3 : Int32), K146 x146_1 x146_3 = some (r, Sr) → GoM G l 4 (TmR G (some (.int r)) 97 Sr 0 0) mX7_parts 146 [(0, .ref a0), (1, .int x146_1), (3, .int x146_3)] [] S := by
      intro x146_1 x146_3 hf
      rw [eK146] at hf
      refine Go.aload_n 0 147 rfl dX7_parts_146 rfl ?_
      refine Go.iload_n 2 148 rfl dX7_parts_147 rfl ?_
      obtain ⟨r148, S148, er148, hf⟩ := f_bn2 hf
      refine Go.cV 151 [.int x146_3] [] (C_X7_tell G l n S a0 x146_3 r148 S148 ha0 er148) rfl dX7_parts_148 cv_X7_80 ha0 (by decide) (by decide) rfl (Nat.le_of_ble_eq_true rfl) ?_
      refine Go.istore 153 [(4, .int r148), (0, .ref a0), (1, .int x146_1), (3, .int x146_3)] rfl dX7_parts_151 (by decide) rfl ?_
      refine Go.iload_n 2 154 rfl dX7_parts_153 rfl ?_
      exact Go.irS rfl dX7_parts_154 hf
    clear eK146
    have L22 : ∀ (fu : Nat) (l22_1 : Int32) (l22_2 : Int32) (l22_3 : Int32) (l22_4 : Int32), F_X7_parts_L22 n S a0 k1 K146 fu l22_1 l22_2 l22_3 l22_4 = some (r, Sr) → GoM G l 4 (TmR G (some (.int r)) 97 Sr 0 0) mX7_parts 22 [(0, .ref a0), (1, .int l22_1), (2, .int l22_2), (3, .int l22_3), (4, .int l22_4)] [] S := by
      intro fu
      induction fu with
      | zero => intro l22_1 l22_2 l22_3 l22_4 hf; rw [F_X7_parts_L22] at hf; cases hf
      | succ fu ih =>
        intro l22_1 l22_2 l22_3 l22_4 hf
        rw [F_X7_parts_L22] at hf
        refine Go.iload 4 24 rfl dX7_parts_22 rfl ?_
        refine Go.sipush (600 : Int32) 27 rfl dX7_parts_24 cs_600 ?_
        refine Go.icmp_ge 146 30 rfl dX7_parts_27 rfl (fun hc => ?_) (fun hc => ?_)
        · replace hf := f_if hf hc
          exact Go.sub [0, 1, 3] [(0, .ref a0), (1, .int l22_1), (3, .int l22_3)] rfl (J146 l22_1 l22_3 hf)
        · replace hf := f_el hf hc
          refine Go.iload 4 32 rfl dX7_parts_30 rfl ?_
          refine Go.bipush (10 : Int32) 34 rfl dX7_parts_32 cb_10 ?_
          refine Go.idiv 35 rfl dX7_parts_34 (by decide) ?_
          refine Go.bipush (10 : Int32) 37 rfl dX7_parts_35 cb_10 ?_
          refine Go.irem 38 rfl dX7_parts_37 (by decide) ?_
          obtain ⟨v38, ev38, hf⟩ := f_nm hf
          refine Go.topi v38 ev38 ?_
          refine Go.istore 40 [(5, .int v38), (0, .ref a0), (1, .int l22_1), (2, .int l22_2), (3, .int l22_3), (4, .int l22_4)] rfl dX7_parts_38 (by decide) rfl ?_
          refine Go.iload 5 42 rfl dX7_parts_40 rfl ?_
          refine Go.bipush (10 : Int32) 44 rfl dX7_parts_42 cb_10 ?_
          refine Go.irem 45 rfl dX7_parts_44 (by decide) ?_
          obtain ⟨v45, ev45, hf⟩ := f_nm hf
          refine Go.topi v45 ev45 ?_
          refine Go.istore 47 [(6, .int v45), (5, .int v38), (0, .ref a0), (1, .int l22_1), (2, .int l22_2), (3, .int l22_3), (4, .int l22_4)] rfl dX7_parts_45 (by decide) rfl ?_
          refine Go.iload 0 49 rfl dX7_parts_47 rfl ?_
          refine Go.iload 1 51 rfl dX7_parts_49 rfl ?_
          obtain ⟨K140, eK140, hf⟩ := f_jn hf
          have J140 : ∀ (j140_1 : Int32) (j140_2 : Int32) (j140_3 : Int32), K140 j140_1 j140_2 j140_3 = some (r, Sr) → GoM G l 4 (TmR G (some (.int r)) 97 Sr 0 0) mX7_parts 140 [(0, .ref a0), (1, .int j140_1), (2, .int j140_2), (3, .int j140_3), (4, .int l22_4)] [] S := by
            intro j140_1 j140_2 j140_3 hf
            rw [eK140] at hf
            refine Go.inc 4 143 (1 : Int32) [(4, .int (l22_4 + (1 : Int32))), (0, .ref a0), (1, .int j140_1), (2, .int j140_2), (3, .int j140_3)] rfl dX7_parts_140 rfl ci_1 (by decide) rfl ?_
            refine Go.goto 22 dX7_parts_143 rfl ?_
            exact Go.sub [1, 2, 3, 4, 0] [(0, .ref a0), (1, .int j140_1), (2, .int j140_2), (3, .int j140_3), (4, .int (l22_4 + (1 : Int32)))] rfl (ih j140_1 j140_2 j140_3 (l22_4 + (1 : Int32)) hf)
          clear eK140
          refine Go.icmp_ge 57 54 rfl dX7_parts_51 rfl (fun hc => ?_) (fun hc => ?_)
          · replace hf := f_if hf hc
            refine Go.aload_n 2 58 rfl dX7_parts_57 rfl ?_
            refine Go.iload 6 60 rfl dX7_parts_58 rfl ?_
            refine Go.bipush (100 : Int32) 62 rfl dX7_parts_60 cb_100 ?_
            refine Go.idiv 63 rfl dX7_parts_62 (by decide) ?_
            refine Go.iload 1 65 rfl dX7_parts_63 rfl ?_
            refine Go.iload 0 67 rfl dX7_parts_65 rfl ?_
            obtain ⟨r67, er67, hf⟩ := f_bnd hf
            refine Go.cV 70 [.int (l22_4 / (100 : Int32)), .int v38, .int v45] [] (C_X7_manyFit G l n S a0 (l22_4 / (100 : Int32)) v38 v45 r67 ha0 er67) rfl dX7_parts_67 cv_X7_191 ha0 (by decide) (by decide) rfl (Nat.le_of_ble_eq_true rfl) ?_
            refine Go.istore 72 [(7, .int r67), (6, .int v45), (5, .int v38), (0, .ref a0), (1, .int l22_1), (2, .int l22_2), (3, .int l22_3), (4, .int l22_4)] rfl dX7_parts_70 (by decide) rfl ?_
            refine Go.iconst (2 : Int32) 73 rfl dX7_parts_72 ci_2 ?_
            refine Go.iload 0 75 rfl dX7_parts_73 rfl ?_
            refine Go.imul 76 rfl dX7_parts_75 ?_
            refine Go.aload_n 3 77 rfl dX7_parts_76 rfl ?_
            refine Go.getR 80 rfl dX7_parts_77 fl_X7_22 rfl (isT_lt ha0) (isT_sh ha0) qk1 ?_
            refine Go.iconst (0 : Int32) 81 rfl dX7_parts_80 ci_0 ?_
            obtain ⟨g81, hf⟩ := f_grd hf
            refine Go.iald 82 rfl dX7_parts_81 (isT_lt hk1) (isT_sh hk1) g81 ?_
            obtain ⟨K110, eK110, hf⟩ := f_jn hf
            have J110 : ∀ (j110s0 : Int32), K110 j110s0 = some (r, Sr) → GoM G l 4 (TmR G (some (.int r)) 97 Sr 0 0) mX7_parts 110 [(0, .ref a0), (1, .int l22_1), (2, .int l22_2), (3, .int l22_3), (4, .int l22_4), (5, .int v38), (6, .int v45), (7, .int r67)] [.int j110s0] S := by
              intro j110s0 hf
              rw [eK110] at hf
              refine Go.istore 112 [(8, .int j110s0), (0, .ref a0), (1, .int l22_1), (2, .int l22_2), (3, .int l22_3), (4, .int l22_4), (5, .int v38), (6, .int v45), (7, .int r67)] rfl dX7_parts_110 (by decide) rfl ?_
              refine Go.bipush (10 : Int32) 114 rfl dX7_parts_112 cb_10 ?_
              refine Go.iload 0 116 rfl dX7_parts_114 rfl ?_
              refine Go.imul 117 rfl dX7_parts_116 ?_
              refine Go.iload 7 119 rfl dX7_parts_117 rfl ?_
              refine Go.iadd 120 rfl dX7_parts_119 ?_
              refine Go.iload 6 122 rfl dX7_parts_120 rfl ?_
              refine Go.isub 123 rfl dX7_parts_122 ?_
              obtain ⟨v123, ev123, hf⟩ := f_nm hf
              refine Go.topi v123 ev123 ?_
              refine Go.istore 125 [(9, .int v123), (8, .int j110s0), (0, .ref a0), (1, .int l22_1), (2, .int l22_2), (3, .int l22_3), (4, .int l22_4), (5, .int v38), (6, .int v45), (7, .int r67)] rfl dX7_parts_123 (by decide) rfl ?_
              refine Go.iload 0 127 rfl dX7_parts_125 rfl ?_
              refine Go.iload_n 4 128 rfl dX7_parts_127 rfl ?_
              refine Go.icmp_ge 140 131 rfl dX7_parts_128 rfl (fun hc => ?_) (fun hc => ?_)
              · replace hf := f_if hf hc
                exact Go.sub [2, 3, 4, 5, 6] [(0, .ref a0), (1, .int l22_1), (2, .int l22_2), (3, .int l22_3), (4, .int l22_4)] rfl (J140 l22_1 l22_2 l22_3 hf)
              · replace hf := f_el hf hc
                refine Go.iload 0 133 rfl dX7_parts_131 rfl ?_
                refine Go.istore_n 134 [(2, .int v123), (9, .int v123), (8, .int j110s0), (0, .ref a0), (1, .int l22_1), (3, .int l22_3), (4, .int l22_4), (5, .int v38), (6, .int v45), (7, .int r67)] rfl dX7_parts_133 (by decide) rfl ?_
                refine Go.iload 6 136 rfl dX7_parts_134 rfl ?_
                refine Go.istore_n 137 [(1, .int l22_4), (2, .int v123), (9, .int v123), (8, .int j110s0), (0, .ref a0), (3, .int l22_3), (4, .int l22_4), (5, .int v38), (6, .int v45), (7, .int r67)] rfl dX7_parts_136 (by decide) rfl ?_
                refine Go.iload 9 139 rfl dX7_parts_137 rfl ?_
                refine Go.istore_n 140 [(3, .int r67), (1, .int l22_4), (2, .int v123), (9, .int v123), (8, .int j110s0), (0, .ref a0), (4, .int l22_4), (5, .int v38), (6, .int v45), (7, .int r67)] rfl dX7_parts_139 (by decide) rfl ?_
                exact Go.sub [5, 1, 2, 0, 6] [(0, .ref a0), (1, .int l22_4), (2, .int v123), (3, .int r67), (4, .int l22_4)] rfl (J140 l22_4 v123 r67 hf)
            clear eK110
            refine Go.icmp_le 99 85 rfl dX7_parts_82 rfl (fun hc => ?_) (fun hc => ?_)
            · replace hf := f_if hf hc
              refine Go.aload_n 3 100 rfl dX7_parts_99 rfl ?_
              refine Go.getR 103 rfl dX7_parts_100 fl_X7_22 rfl (isT_lt ha0) (isT_sh ha0) qk1 ?_
              refine Go.iconst (0 : Int32) 104 rfl dX7_parts_103 ci_0 ?_
              obtain ⟨g104, hf⟩ := f_grd hf
              refine Go.iald 105 rfl dX7_parts_104 (isT_lt hk1) (isT_sh hk1) g104 ?_
              refine Go.iconst (2 : Int32) 106 rfl dX7_parts_105 ci_2 ?_
              refine Go.iload 0 108 rfl dX7_parts_106 rfl ?_
              refine Go.imul 109 rfl dX7_parts_108 ?_
              refine Go.isub 110 rfl dX7_parts_109 ?_
              exact Go.sub [3, 4, 5, 6, 7, 2, 1, 0] [(0, .ref a0), (1, .int l22_1), (2, .int l22_2), (3, .int l22_3), (4, .int l22_4), (5, .int v38), (6, .int v45), (7, .int r67)] rfl (J110 ((S.1 k1 (0 : Int32).toNatClampNeg) - ((2 : Int32) * r67)) hf)
            · replace hf := f_el hf hc
              refine Go.iconst (2 : Int32) 86 rfl dX7_parts_85 ci_2 ?_
              refine Go.iload 0 88 rfl dX7_parts_86 rfl ?_
              refine Go.imul 89 rfl dX7_parts_88 ?_
              refine Go.aload_n 3 90 rfl dX7_parts_89 rfl ?_
              refine Go.getR 93 rfl dX7_parts_90 fl_X7_22 rfl (isT_lt ha0) (isT_sh ha0) qk1 ?_
              refine Go.iconst (0 : Int32) 94 rfl dX7_parts_93 ci_0 ?_
              obtain ⟨g94, hf⟩ := f_grd hf
              refine Go.iald 95 rfl dX7_parts_94 (isT_lt hk1) (isT_sh hk1) g94 ?_
              refine Go.isub 96 rfl dX7_parts_95 ?_
              refine Go.goto 110 dX7_parts_96 rfl ?_
              exact Go.sub [3, 4, 5, 6, 7, 2, 1, 0] [(0, .ref a0), (1, .int l22_1), (2, .int l22_2), (3, .int l22_3), (4, .int l22_4), (5, .int v38), (6, .int v45), (7, .int r67)] rfl (J110 (((2 : Int32) * r67) - (S.1 k1 (0 : Int32).toNatClampNeg)) hf)
          · replace hf := f_el hf hc
            refine Go.goto 140 dX7_parts_54 rfl ?_
            exact Go.sub [2, 3, 4, 5, 6] [(0, .ref a0), (1, .int l22_1), (2, .int l22_2), (3, .int l22_3), (4, .int l22_4)] rfl (J140 l22_1 l22_2 l22_3 hf)
    exact Go.sub [4, 3, 2, 1, 0] [(0, .ref a0), (1, .int (0 : Int32)), (2, .int (99 : Int32)), (3, .int (0 : Int32)), (4, .int (0 : Int32))] rfl (L22 n (0 : Int32) (99 : Int32) (0 : Int32) (0 : Int32) hf)
  · replace hf := f_if hf hc
    refine Go.bipush (-4 : Int32) 11 rfl dX7_parts_9 cb_m4 ?_
    exact Go.irS rfl dX7_parts_11 hf
theorem dX7_isOne_0 : decode cX7_isOne 0 = .ok (.iload_n 0, 1) := by decide +kernel
theorem dX7_isOne_1 : decode cX7_isOne 1 = .ok (.iload_n 0, 1) := by decide +kernel
theorem dX7_isOne_2 : decode cX7_isOne 2 = .ok (.iconst 1, 1) := by decide +kernel
theorem dX7_isOne_3 : decode cX7_isOne 3 = .ok (.isub, 1) := by decide +kernel
theorem dX7_isOne_4 : decode cX7_isOne 4 = .ok (.iand, 1) := by decide +kernel
theorem dX7_isOne_5 : decode cX7_isOne 5 = .ok (.ifCond .ne 7, 3) := by decide +kernel
theorem dX7_isOne_8 : decode cX7_isOne 8 = .ok (.iconst 1, 1) := by decide +kernel
theorem dX7_isOne_9 : decode cX7_isOne 9 = .ok (.goto 4, 3) := by decide +kernel
theorem dX7_isOne_12 : decode cX7_isOne 12 = .ok (.iconst 0, 1) := by decide +kernel
theorem dX7_isOne_13 : decode cX7_isOne 13 = .ok (.ireturn, 1) := by decide +kernel
def F_X7_isOne (n : Nat) (S : aSt) (a0 : Int32) : Option Int32 :=
if (a0 &&& (a0 - (1 : Int32))) = 0 then (some (1 : Int32)) else
some (0 : Int32)
set_option maxHeartbeats 4000000 in
set_option maxRecDepth 100000 in
theorem C_X7_isOne (G : aG) (l : Launch) (n : Nat) (S : aSt) (a0 : Int32) (r : Int32)  (hf : F_X7_isOne n S a0 = some r) : Ctr G l yX7_isOne mX7_isOne (rmM 1) 97 97 S [.int a0] (some (.int r)) S := by
  refine Ctr.of (by decide) rfl rfl (Nat.le_of_ble_eq_true rfl) [(0, .int a0)] rfl ?_
  unfold F_X7_isOne at hf
  refine Go.iload_n 0 1 rfl dX7_isOne_0 rfl ?_
  refine Go.iload_n 0 2 rfl dX7_isOne_1 rfl ?_
  refine Go.iconst (1 : Int32) 3 rfl dX7_isOne_2 ci_1 ?_
  refine Go.isub 4 rfl dX7_isOne_3 ?_
  refine Go.iand 5 rfl dX7_isOne_4 ?_
  refine Go.if_ne 12 8 rfl dX7_isOne_5 rfl (fun hc => ?_) (fun hc => ?_)
  · replace hf := f_el hf hc
    refine Go.iconst (0 : Int32) 13 rfl dX7_isOne_12 ci_0 ?_
    exact Go.zr rfl (Or.inl rfl) dX7_isOne_13 hf
  · replace hf := f_if hf hc
    refine Go.iconst (1 : Int32) 9 rfl dX7_isOne_8 ci_1 ?_
    refine Go.goto 13 dX7_isOne_9 rfl ?_
    exact Go.zr rfl (Or.inr rfl) dX7_isOne_13 hf
