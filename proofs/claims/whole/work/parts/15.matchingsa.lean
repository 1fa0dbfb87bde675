/-! written by program: X2_spreadAhead X2_countAhead X2_waysFrom X2_countOn X2_mostPairs X2_countIn X2_countWith X2_sureCard X2_firstFullest X2_layFullest X2_firstWished -/
theorem dX2_spreadAhead_0 : decode cX2_spreadAhead 0 = .ok (.iload_n 3, 1) := by decide +kernel
theorem dX2_spreadAhead_1 : decode cX2_spreadAhead 1 = .ok (.ifCond .ne 4, 3) := by decide +kernel
theorem dX2_spreadAhead_4 : decode cX2_spreadAhead 4 = .ok (.return_, 1) := by decide +kernel
theorem dX2_spreadAhead_5 : decode cX2_spreadAhead 5 = .ok (.iload_n 1, 1) := by decide +kernel
theorem dX2_spreadAhead_6 : decode cX2_spreadAhead 6 = .ok (.iconst 1, 1) := by decide +kernel
theorem dX2_spreadAhead_7 : decode cX2_spreadAhead 7 = .ok (.iadd, 1) := by decide +kernel
theorem dX2_spreadAhead_8 : decode cX2_spreadAhead 8 = .ok (.sipush 128, 3) := by decide +kernel
theorem dX2_spreadAhead_11 : decode cX2_spreadAhead 11 = .ok (.imul, 1) := by decide +kernel
theorem dX2_spreadAhead_12 : decode cX2_spreadAhead 12 = .ok (.istore 4, 2) := by decide +kernel
theorem dX2_spreadAhead_14 : decode cX2_spreadAhead 14 = .ok (.aload_n 0, 1) := by decide +kernel
theorem dX2_spreadAhead_15 : decode cX2_spreadAhead 15 = .ok (.getfield 15, 3) := by decide +kernel
theorem dX2_spreadAhead_18 : decode cX2_spreadAhead 18 = .ok (.iload 4, 2) := by decide +kernel
theorem dX2_spreadAhead_20 : decode cX2_spreadAhead 20 = .ok (.iload_n 2, 1) := by decide +kernel
theorem dX2_spreadAhead_21 : decode cX2_spreadAhead 21 = .ok (.iadd, 1) := by decide +kernel
theorem dX2_spreadAhead_22 : decode cX2_spreadAhead 22 = .ok (.dup2, 1) := by decide +kernel
theorem dX2_spreadAhead_23 : decode cX2_spreadAhead 23 = .ok (.iaload, 1) := by decide +kernel
theorem dX2_spreadAhead_24 : decode cX2_spreadAhead 24 = .ok (.iload_n 3, 1) := by decide +kernel
theorem dX2_spreadAhead_25 : decode cX2_spreadAhead 25 = .ok (.iadd, 1) := by decide +kernel
theorem dX2_spreadAhead_26 : decode cX2_spreadAhead 26 = .ok (.iastore, 1) := by decide +kernel
theorem dX2_spreadAhead_27 : decode cX2_spreadAhead 27 = .ok (.aload_n 0, 1) := by decide +kernel
theorem dX2_spreadAhead_28 : decode cX2_spreadAhead 28 = .ok (.getfield 9, 3) := by decide +kernel
theorem dX2_spreadAhead_31 : decode cX2_spreadAhead 31 = .ok (.iload_n 1, 1) := by decide +kernel
theorem dX2_spreadAhead_32 : decode cX2_spreadAhead 32 = .ok (.iaload, 1) := by decide +kernel
theorem dX2_spreadAhead_33 : decode cX2_spreadAhead 33 = .ok (.iload_n 2, 1) := by decide +kernel
theorem dX2_spreadAhead_34 : decode cX2_spreadAhead 34 = .ok (.iconst (-1), 1) := by decide +kernel
theorem dX2_spreadAhead_35 : decode cX2_spreadAhead 35 = .ok (.ixor, 1) := by decide +kernel
theorem dX2_spreadAhead_36 : decode cX2_spreadAhead 36 = .ok (.iand, 1) := by decide +kernel
theorem dX2_spreadAhead_37 : decode cX2_spreadAhead 37 = .ok (.istore 5, 2) := by decide +kernel
theorem dX2_spreadAhead_39 : decode cX2_spreadAhead 39 = .ok (.iconst 0, 1) := by decide +kernel
theorem dX2_spreadAhead_40 : decode cX2_spreadAhead 40 = .ok (.istore 6, 2) := by decide +kernel
theorem dX2_spreadAhead_42 : decode cX2_spreadAhead 42 = .ok (.iload 6, 2) := by decide +kernel
theorem dX2_spreadAhead_44 : decode cX2_spreadAhead 44 = .ok (.aload_n 0, 1) := by decide +kernel
theorem dX2_spreadAhead_45 : decode cX2_spreadAhead 45 = .ok (.getfield 25, 3) := by decide +kernel
theorem dX2_spreadAhead_48 : decode cX2_spreadAhead 48 = .ok (.if_icmp .ge 37, 3) := by decide +kernel
theorem dX2_spreadAhead_51 : decode cX2_spreadAhead 51 = .ok (.iload 5, 2) := by decide +kernel
theorem dX2_spreadAhead_53 : decode cX2_spreadAhead 53 = .ok (.iconst 1, 1) := by decide +kernel
theorem dX2_spreadAhead_54 : decode cX2_spreadAhead 54 = .ok (.iload 6, 2) := by decide +kernel
theorem dX2_spreadAhead_56 : decode cX2_spreadAhead 56 = .ok (.ishl, 1) := by decide +kernel
theorem dX2_spreadAhead_57 : decode cX2_spreadAhead 57 = .ok (.iand, 1) := by decide +kernel
theorem dX2_spreadAhead_58 : decode cX2_spreadAhead 58 = .ok (.ifCond .eq 21, 3) := by decide +kernel
theorem dX2_spreadAhead_61 : decode cX2_spreadAhead 61 = .ok (.aload_n 0, 1) := by decide +kernel
theorem dX2_spreadAhead_62 : decode cX2_spreadAhead 62 = .ok (.getfield 15, 3) := by decide +kernel
theorem dX2_spreadAhead_65 : decode cX2_spreadAhead 65 = .ok (.iload 4, 2) := by decide +kernel
theorem dX2_spreadAhead_67 : decode cX2_spreadAhead 67 = .ok (.iload_n 2, 1) := by decide +kernel
theorem dX2_spreadAhead_68 : decode cX2_spreadAhead 68 = .ok (.iconst 1, 1) := by decide +kernel
theorem dX2_spreadAhead_69 : decode cX2_spreadAhead 69 = .ok (.iload 6, 2) := by decide +kernel
theorem dX2_spreadAhead_71 : decode cX2_spreadAhead 71 = .ok (.ishl, 1) := by decide +kernel
theorem dX2_spreadAhead_72 : decode cX2_spreadAhead 72 = .ok (.ior, 1) := by decide +kernel
theorem dX2_spreadAhead_73 : decode cX2_spreadAhead 73 = .ok (.iadd, 1) := by decide +kernel
theorem dX2_spreadAhead_74 : decode cX2_spreadAhead 74 = .ok (.dup2, 1) := by decide +kernel
theorem dX2_spreadAhead_75 : decode cX2_spreadAhead 75 = .ok (.iaload, 1) := by decide +kernel
theorem dX2_spreadAhead_76 : decode cX2_spreadAhead 76 = .ok (.iload_n 3, 1) := by decide +kernel
theorem dX2_spreadAhead_77 : decode cX2_spreadAhead 77 = .ok (.iadd, 1) := by decide +kernel
theorem dX2_spreadAhead_78 : decode cX2_spreadAhead 78 = .ok (.iastore, 1) := by decide +kernel
theorem dX2_spreadAhead_79 : decode cX2_spreadAhead 79 = .ok (.iinc 6 1, 3) := by decide +kernel
theorem dX2_spreadAhead_82 : decode cX2_spreadAhead 82 = .ok (.goto (-40), 3) := by decide +kernel
theorem dX2_spreadAhead_85 : decode cX2_spreadAhead 85 = .ok (.return_, 1) := by decide +kernel
def F_X2_spreadAhead_L42 (a0 : Nat) (a2 : Int32) (a3 : Int32) (v12 : Int32) (v37 : Int32) (K85 : aSt → Option aSt) : Nat → Int32 → aSt → Option aSt
  | 0, _, _ => none
  | fu + 1, l42_6, l42S =>
    if (l42S.1 a0 4) ≤ l42_6 then (K85 l42S) else
    jn (fun (j79S : aSt) => (F_X2_spreadAhead_L42 a0 a2 a3 v12 v37 K85 fu (l42_6 + (1 : Int32)) j79S : Option aSt)) fun K79 =>
    if (v37 &&& ((1 : Int32) <<< (l42_6 &&& 31))) = 0 then (K79 l42S) else
    rfd (l42S.2.2 a0 1) 7 fun k62 =>
    grd (inb (v12 + (a2 ||| ((1 : Int32) <<< (l42_6 &&& 31)))) (SH k62).2) <|
    grd (inb (v12 + (a2 ||| ((1 : Int32) <<< (l42_6 &&& 31)))) (SH k62).2) <|
    nm (stI l42S k62 (v12 + (a2 ||| ((1 : Int32) <<< (l42_6 &&& 31)))).toNatClampNeg ((l42S.1 k62 (v12 + (a2 ||| ((1 : Int32) <<< (l42_6 &&& 31)))).toNatClampNeg) + a3)) fun S78 =>
    K79 S78
def F_X2_spreadAhead (n : Nat) (S : aSt) (a0 : Nat) (a1 : Int32) (a2 : Int32) (a3 : Int32) : Option aSt :=
if a3 = 0 then (some S) else
nm ((a1 + (1 : Int32)) * (128 : Int32)) fun v12 =>
rfd (S.2.2 a0 1) 7 fun k15 =>
grd (inb (v12 + a2) (SH k15).2) <|
grd (inb (v12 + a2) (SH k15).2) <|
nm (stI S k15 (v12 + a2).toNatClampNeg ((S.1 k15 (v12 + a2).toNatClampNeg) + a3)) fun S26 =>
rfd (S26.2.2 a0 0) 7 fun k28 =>
grd (inb a1 (SH k28).2) <|
nm ((S26.1 k28 a1.toNatClampNeg) &&& (a2 ^^^ (-1 : Int32))) fun v37 =>
jn (fun (x85S : aSt) => (some x85S : Option aSt)) fun K85 =>
F_X2_spreadAhead_L42 a0 a2 a3 v12 v37 K85 n (0 : Int32) S26
set_option maxHeartbeats 4000000 in
set_option maxRecDepth 100000 in
theorem C_X2_spreadAhead (G : aG) (l : Launch) (n : Nat) (S : aSt) (a0 : Nat) (a1 : Int32) (a2 : Int32) (a3 : Int32) (Sr : aSt) (ha0 : isT a0 1 = true) (hf : F_X2_spreadAhead n S a0 a1 a2 a3 = some Sr) : Ctr G l yX2_spreadAhead mX2_spreadAhead (rmM 1) 97 97 S [.ref a0, .int a1, .int a2, .int a3] none Sr := by
  refine Ctr.of (by decide) rfl rfl (Nat.le_of_ble_eq_true rfl) [(0, .ref a0), (1, .int a1), (2, .int a2), (3, .int a3)] rfl ?_
  unfold F_X2_spreadAhead at hf
  refine Go.iload_n 3 1 rfl dX2_spreadAhead_0 rfl ?_
  refine Go.if_ne 5 4 rfl dX2_spreadAhead_1 rfl (fun hc => ?_) (fun hc => ?_)
  · replace hf := f_el hf hc
    refine Go.iload_n 1 6 rfl dX2_spreadAhead_5 rfl ?_
    refine Go.iconst (1 : Int32) 7 rfl dX2_spreadAhead_6 ci_1 ?_
    refine Go.iadd 8 rfl dX2_spreadAhead_7 ?_
    refine Go.sipush (128 : Int32) 11 rfl dX2_spreadAhead_8 cs_128 ?_
    refine Go.imul 12 rfl dX2_spreadAhead_11 ?_
    obtain ⟨v12, ev12, hf⟩ := f_nm hf
    refine Go.topi v12 ev12 ?_
    refine Go.istore 14 [(4, .int v12), (0, .ref a0), (1, .int a1), (2, .int a2), (3, .int a3)] rfl dX2_spreadAhead_12 (by decide) rfl ?_
    refine Go.aload_n 1 15 rfl dX2_spreadAhead_14 rfl ?_
    obtain ⟨k15, qk15, hk15, hf⟩ := f_rfd hf
    refine Go.getR 18 rfl dX2_spreadAhead_15 fl_X2_15 rfl (isT_lt ha0) (isT_sh ha0) qk15 ?_
    refine Go.iload 0 20 rfl dX2_spreadAhead_18 rfl ?_
    refine Go.iload_n 3 21 rfl dX2_spreadAhead_20 rfl ?_
    refine Go.iadd 22 rfl dX2_spreadAhead_21 ?_
    refine Go.dup2 23 rfl dX2_spreadAhead_22 rfl rfl ?_
    obtain ⟨g23, hf⟩ := f_grd hf
    refine Go.iald 24 rfl dX2_spreadAhead_23 (isT_lt hk15) (isT_sh hk15) g23 ?_
    refine Go.iload_n 4 25 rfl dX2_spreadAhead_24 rfl ?_
    refine Go.iadd 26 rfl dX2_spreadAhead_25 ?_
    obtain ⟨g26, hf⟩ := f_grd hf
    obtain ⟨S26, eS26, hf⟩ := f_nm hf
    refine Go.iast 27 rfl dX2_spreadAhead_26 (isT_lt hk15) (isT_sh hk15) g26 (Go.stt S26 eS26 ?_)
    refine Go.aload_n 1 28 rfl dX2_spreadAhead_27 rfl ?_
    obtain ⟨k28, qk28, hk28, hf⟩ := f_rfd hf
    refine Go.getR 31 rfl dX2_spreadAhead_28 fl_X2_9 rfl (isT_lt ha0) (isT_sh ha0) qk28 ?_
    refine Go.iload_n 2 32 rfl dX2_spreadAhead_31 rfl ?_
    obtain ⟨g32, hf⟩ := f_grd hf
    refine Go.iald 33 rfl dX2_spreadAhead_32 (isT_lt hk28) (isT_sh hk28) g32 ?_
    refine Go.iload_n 3 34 rfl dX2_spreadAhead_33 rfl ?_
    refine Go.iconst (-1 : Int32) 35 rfl dX2_spreadAhead_34 ci_m1 ?_
    refine Go.ixor 36 rfl dX2_spreadAhead_35 ?_
    refine Go.iand 37 rfl dX2_spreadAhead_36 ?_
    obtain ⟨v37, ev37, hf⟩ := f_nm hf
    refine Go.topi v37 ev37 ?_
    refine Go.istore 39 [(5, .int v37), (4, .int v12), (0, .ref a0), (1, .int a1), (2, .int a2), (3, .int a3)] rfl dX2_spreadAhead_37 (by decide) rfl ?_
    refine Go.iconst (0 : Int32) 40 rfl dX2_spreadAhead_39 ci_0 ?_
    refine Go.istore 42 [(6, .int (0 : Int32)), (5, .int v37), (4, .int v12), (0, .ref a0), (1, .int a1), (2, .int a2), (3, .int a3)] rfl dX2_spreadAhead_40 (by decide) rfl ?_
    obtain ⟨K85, eK85, hf⟩ := f_jn hf
    have J85 : ∀ (x85S : aSt), K85 x85S = some Sr → GoM G l 1 (TmR G none 97 Sr 0 0) mX2_spreadAhead 85 [] [] x85S := by
      intro x85S hf
      rw [eK85] at hf
      exact Go.vr rfl dX2_spreadAhead_85 hf
    clear eK85
    have L42 : ∀ (fu : Nat) (l42_6 : Int32) (l42S : aSt), F_X2_spreadAhead_L42 a0 a2 a3 v12 v37 K85 fu l42_6 l42S = some Sr → GoM G l 1 (TmR G none 97 Sr 0 0) mX2_spreadAhead 42 [(0, .ref a0), (2, .int a2), (3, .int a3), (4, .int v12), (5, .int v37), (6, .int l42_6)] [] l42S := by
      intro fu
      induction fu with
      | zero => intro l42_6 l42S hf; rw [F_X2_spreadAhead_L42] at hf; cases hf
      | succ fu ih =>
        intro l42_6 l42S hf
        rw [F_X2_spreadAhead_L42] at hf
        refine Go.iload 5 44 rfl dX2_spreadAhead_42 rfl ?_
        refine Go.aload_n 0 45 rfl dX2_spreadAhead_44 rfl ?_
        refine Go.getI 48 rfl dX2_spreadAhead_45 fl_X2_25 rfl (isT_lt ha0) (isT_sh ha0) ?_
        refine Go.icmp_ge 85 51 rfl dX2_spreadAhead_48 rfl (fun hc => ?_) (fun hc => ?_)
        · replace hf := f_if hf hc
          exact Go.sub [] [] rfl (J85 l42S hf)
        · replace hf := f_el hf hc
          refine Go.iload 4 53 rfl dX2_spreadAhead_51 rfl ?_
          refine Go.iconst (1 : Int32) 54 rfl dX2_spreadAhead_53 ci_1 ?_
          refine Go.iload 5 56 rfl dX2_spreadAhead_54 rfl ?_
          refine Go.ishl 57 rfl dX2_spreadAhead_56 ?_
          refine Go.iand 58 rfl dX2_spreadAhead_57 ?_
          obtain ⟨K79, eK79, hf⟩ := f_jn hf
          have J79 : ∀ (j79S : aSt), K79 j79S = some Sr → GoM G l 1 (TmR G none 97 Sr 0 0) mX2_spreadAhead 79 [(0, .ref a0), (2, .int a2), (3, .int a3), (4, .int v12), (5, .int v37), (6, .int l42_6)] [] j79S := by
            intro j79S hf
            rw [eK79] at hf
            refine Go.inc 5 82 (1 : Int32) [(6, .int (l42_6 + (1 : Int32))), (0, .ref a0), (2, .int a2), (3, .int a3), (4, .int v12), (5, .int v37)] rfl dX2_spreadAhead_79 rfl ci_1 (by decide) rfl ?_
            refine Go.goto 42 dX2_spreadAhead_82 rfl ?_
            exact Go.sub [1, 2, 3, 4, 5, 0] [(0, .ref a0), (2, .int a2), (3, .int a3), (4, .int v12), (5, .int v37), (6, .int (l42_6 + (1 : Int32)))] rfl (ih (l42_6 + (1 : Int32)) j79S hf)
          clear eK79
          refine Go.if_eq 79 61 rfl dX2_spreadAhead_58 rfl (fun hc => ?_) (fun hc => ?_)
          · replace hf := f_if hf hc
            exact J79 l42S hf
          · replace hf := f_el hf hc
            refine Go.aload_n 0 62 rfl dX2_spreadAhead_61 rfl ?_
            obtain ⟨k62, qk62, hk62, hf⟩ := f_rfd hf
            refine Go.getR 65 rfl dX2_spreadAhead_62 fl_X2_15 rfl (isT_lt ha0) (isT_sh ha0) qk62 ?_
            refine Go.iload 3 67 rfl dX2_spreadAhead_65 rfl ?_
            refine Go.iload_n 1 68 rfl dX2_spreadAhead_67 rfl ?_
            refine Go.iconst (1 : Int32) 69 rfl dX2_spreadAhead_68 ci_1 ?_
            refine Go.iload 5 71 rfl dX2_spreadAhead_69 rfl ?_
            refine Go.ishl 72 rfl dX2_spreadAhead_71 ?_
            refine Go.ior 73 rfl dX2_spreadAhead_72 ?_
            refine Go.iadd 74 rfl dX2_spreadAhead_73 ?_
            refine Go.dup2 75 rfl dX2_spreadAhead_74 rfl rfl ?_
            obtain ⟨g75, hf⟩ := f_grd hf
            refine Go.iald 76 rfl dX2_spreadAhead_75 (isT_lt hk62) (isT_sh hk62) g75 ?_
            refine Go.iload_n 2 77 rfl dX2_spreadAhead_76 rfl ?_
            refine Go.iadd 78 rfl dX2_spreadAhead_77 ?_
            obtain ⟨g78, hf⟩ := f_grd hf
            obtain ⟨S78, eS78, hf⟩ := f_nm hf
            refine Go.iast 79 rfl dX2_spreadAhead_78 (isT_lt hk62) (isT_sh hk62) g78 (Go.stt S78 eS78 ?_)
            exact J79 S78 hf
    exact Go.sub [3, 5, 6, 2, 1, 0] [(0, .ref a0), (2, .int a2), (3, .int a3), (4, .int v12), (5, .int v37), (6, .int (0 : Int32))] rfl (L42 n (0 : Int32) S26 hf)
  · replace hf := f_if hf hc
    exact Go.vr rfl dX2_spreadAhead_4 hf
theorem dX2_countAhead_0 : decode cX2_countAhead 0 = .ok (.aload_n 0, 1) := by decide +kernel
theorem dX2_countAhead_1 : decode cX2_countAhead 1 = .ok (.aload_n 1, 1) := by decide +kernel
theorem dX2_countAhead_2 : decode cX2_countAhead 2 = .ok (.getfield 48, 3) := by decide +kernel
theorem dX2_countAhead_5 : decode cX2_countAhead 5 = .ok (.putfield 21, 3) := by decide +kernel
theorem dX2_countAhead_8 : decode cX2_countAhead 8 = .ok (.aload_n 0, 1) := by decide +kernel
theorem dX2_countAhead_9 : decode cX2_countAhead 9 = .ok (.aload_n 1, 1) := by decide +kernel
theorem dX2_countAhead_10 : decode cX2_countAhead 10 = .ok (.getfield 51, 3) := by decide +kernel
theorem dX2_countAhead_13 : decode cX2_countAhead 13 = .ok (.putfield 25, 3) := by decide +kernel
theorem dX2_countAhead_16 : decode cX2_countAhead 16 = .ok (.aload_n 0, 1) := by decide +kernel
theorem dX2_countAhead_17 : decode cX2_countAhead 17 = .ok (.iconst 1, 1) := by decide +kernel
theorem dX2_countAhead_18 : decode cX2_countAhead 18 = .ok (.aload_n 0, 1) := by decide +kernel
theorem dX2_countAhead_19 : decode cX2_countAhead 19 = .ok (.getfield 25, 3) := by decide +kernel
theorem dX2_countAhead_22 : decode cX2_countAhead 22 = .ok (.ishl, 1) := by decide +kernel
theorem dX2_countAhead_23 : decode cX2_countAhead 23 = .ok (.putfield 28, 3) := by decide +kernel
theorem dX2_countAhead_26 : decode cX2_countAhead 26 = .ok (.aload_n 1, 1) := by decide +kernel
theorem dX2_countAhead_27 : decode cX2_countAhead 27 = .ok (.invokevirtual 52, 3) := by decide +kernel
theorem dX2_countAhead_30 : decode cX2_countAhead 30 = .ok (.istore_n 2, 1) := by decide +kernel
theorem dX2_countAhead_31 : decode cX2_countAhead 31 = .ok (.aload_n 0, 1) := by decide +kernel
theorem dX2_countAhead_32 : decode cX2_countAhead 32 = .ok (.getfield 15, 3) := by decide +kernel
theorem dX2_countAhead_35 : decode cX2_countAhead 35 = .ok (.iconst 0, 1) := by decide +kernel
theorem dX2_countAhead_36 : decode cX2_countAhead 36 = .ok (.invokestatic 55, 3) := by decide +kernel
theorem dX2_countAhead_39 : decode cX2_countAhead 39 = .ok (.aload_n 0, 1) := by decide +kernel
theorem dX2_countAhead_40 : decode cX2_countAhead 40 = .ok (.getfield 15, 3) := by decide +kernel
theorem dX2_countAhead_43 : decode cX2_countAhead 43 = .ok (.iconst 0, 1) := by decide +kernel
theorem dX2_countAhead_44 : decode cX2_countAhead 44 = .ok (.iconst 1, 1) := by decide +kernel
theorem dX2_countAhead_45 : decode cX2_countAhead 45 = .ok (.iastore, 1) := by decide +kernel
theorem dX2_countAhead_46 : decode cX2_countAhead 46 = .ok (.iconst 0, 1) := by decide +kernel
theorem dX2_countAhead_47 : decode cX2_countAhead 47 = .ok (.istore_n 3, 1) := by decide +kernel
theorem dX2_countAhead_48 : decode cX2_countAhead 48 = .ok (.iload_n 3, 1) := by decide +kernel
theorem dX2_countAhead_49 : decode cX2_countAhead 49 = .ok (.aload_n 0, 1) := by decide +kernel
theorem dX2_countAhead_50 : decode cX2_countAhead 50 = .ok (.getfield 21, 3) := by decide +kernel
theorem dX2_countAhead_53 : decode cX2_countAhead 53 = .ok (.if_icmp .ge 72, 3) := by decide +kernel
theorem dX2_countAhead_56 : decode cX2_countAhead 56 = .ok (.aload_n 0, 1) := by decide +kernel
theorem dX2_countAhead_57 : decode cX2_countAhead 57 = .ok (.getfield 9, 3) := by decide +kernel
theorem dX2_countAhead_60 : decode cX2_countAhead 60 = .ok (.iload_n 3, 1) := by decide +kernel
theorem dX2_countAhead_61 : decode cX2_countAhead 61 = .ok (.aload_n 1, 1) := by decide +kernel
theorem dX2_countAhead_62 : decode cX2_countAhead 62 = .ok (.iload_n 3, 1) := by decide +kernel
theorem dX2_countAhead_63 : decode cX2_countAhead 63 = .ok (.invokevirtual 61, 3) := by decide +kernel
theorem dX2_countAhead_66 : decode cX2_countAhead 66 = .ok (.ifCond .eq 13, 3) := by decide +kernel
theorem dX2_countAhead_69 : decode cX2_countAhead 69 = .ok (.aload_n 1, 1) := by decide +kernel
theorem dX2_countAhead_70 : decode cX2_countAhead 70 = .ok (.iload_n 3, 1) := by decide +kernel
theorem dX2_countAhead_71 : decode cX2_countAhead 71 = .ok (.invokevirtual 65, 3) := by decide +kernel
theorem dX2_countAhead_74 : decode cX2_countAhead 74 = .ok (.iload_n 2, 1) := by decide +kernel
theorem dX2_countAhead_75 : decode cX2_countAhead 75 = .ok (.iand, 1) := by decide +kernel
theorem dX2_countAhead_76 : decode cX2_countAhead 76 = .ok (.goto 4, 3) := by decide +kernel
theorem dX2_countAhead_79 : decode cX2_countAhead 79 = .ok (.iconst 0, 1) := by decide +kernel
theorem dX2_countAhead_80 : decode cX2_countAhead 80 = .ok (.iastore, 1) := by decide +kernel
theorem dX2_countAhead_81 : decode cX2_countAhead 81 = .ok (.iconst 0, 1) := by decide +kernel
theorem dX2_countAhead_82 : decode cX2_countAhead 82 = .ok (.istore 4, 2) := by decide +kernel
theorem dX2_countAhead_84 : decode cX2_countAhead 84 = .ok (.iload 4, 2) := by decide +kernel
theorem dX2_countAhead_86 : decode cX2_countAhead 86 = .ok (.aload_n 0, 1) := by decide +kernel
theorem dX2_countAhead_87 : decode cX2_countAhead 87 = .ok (.getfield 28, 3) := by decide +kernel
theorem dX2_countAhead_90 : decode cX2_countAhead 90 = .ok (.if_icmp .ge 29, 3) := by decide +kernel
theorem dX2_countAhead_93 : decode cX2_countAhead 93 = .ok (.aload_n 0, 1) := by decide +kernel
theorem dX2_countAhead_94 : decode cX2_countAhead 94 = .ok (.iload_n 3, 1) := by decide +kernel
theorem dX2_countAhead_95 : decode cX2_countAhead 95 = .ok (.iload 4, 2) := by decide +kernel
theorem dX2_countAhead_97 : decode cX2_countAhead 97 = .ok (.aload_n 0, 1) := by decide +kernel
theorem dX2_countAhead_98 : decode cX2_countAhead 98 = .ok (.getfield 15, 3) := by decide +kernel
theorem dX2_countAhead_101 : decode cX2_countAhead 101 = .ok (.iload_n 3, 1) := by decide +kernel
theorem dX2_countAhead_102 : decode cX2_countAhead 102 = .ok (.sipush 128, 3) := by decide +kernel
theorem dX2_countAhead_105 : decode cX2_countAhead 105 = .ok (.imul, 1) := by decide +kernel
theorem dX2_countAhead_106 : decode cX2_countAhead 106 = .ok (.iload 4, 2) := by decide +kernel
theorem dX2_countAhead_108 : decode cX2_countAhead 108 = .ok (.iadd, 1) := by decide +kernel
theorem dX2_countAhead_109 : decode cX2_countAhead 109 = .ok (.iaload, 1) := by decide +kernel
theorem dX2_countAhead_110 : decode cX2_countAhead 110 = .ok (.invokevirtual 69, 3) := by decide +kernel
theorem dX2_countAhead_113 : decode cX2_countAhead 113 = .ok (.iinc 4 1, 3) := by decide +kernel
theorem dX2_countAhead_116 : decode cX2_countAhead 116 = .ok (.goto (-32), 3) := by decide +kernel
theorem dX2_countAhead_119 : decode cX2_countAhead 119 = .ok (.iinc 3 1, 3) := by decide +kernel
theorem dX2_countAhead_122 : decode cX2_countAhead 122 = .ok (.goto (-74), 3) := by decide +kernel
theorem dX2_countAhead_125 : decode cX2_countAhead 125 = .ok (.return_, 1) := by decide +kernel
def F_X2_countAhead_L84 (n : Nat) (a0 : Nat) (l48_3 : Int32) (K119 : aSt → Option aSt) : Nat → Int32 → aSt → Option aSt
  | 0, _, _ => none
  | fu + 1, l84_4, l84S =>
    if (l84S.1 a0 5) ≤ l84_4 then (K119 l84S) else
    rfd (l84S.2.2 a0 1) 7 fun k98 =>
    grd (inb ((l48_3 * (128 : Int32)) + l84_4) (SH k98).2) <|
    (F_X2_spreadAhead n l84S a0 l48_3 l84_4 (l84S.1 k98 ((l48_3 * (128 : Int32)) + l84_4).toNatClampNeg)).bind fun S110 =>
    F_X2_countAhead_L84 n a0 l48_3 K119 fu (l84_4 + (1 : Int32)) S110
def F_X2_countAhead_L48 (n : Nat) (a0 : Nat) (a1 : Nat) (r27 : Int32) (K125 : aSt → Option aSt) : Nat → Int32 → aSt → Option aSt
  | 0, _, _ => none
  | fu + 1, l48_3, l48S =>
    if (l48S.1 a0 3) ≤ l48_3 then (K125 l48S) else
    rfd (l48S.2.2 a0 0) 7 fun k57 =>
    (F_X1_isFreeQuestion n l48S a1 l48_3).bind fun r63 =>
    jn (fun (j80s2 : Int32) => (grd (inb l48_3 (SH k57).2) <|
    nm (stI l48S k57 l48_3.toNatClampNeg j80s2) fun S80 =>
    jn (fun (x119S : aSt) => (F_X2_countAhead_L48 n a0 a1 r27 K125 fu (l48_3 + (1 : Int32)) x119S : Option aSt)) fun K119 =>
    F_X2_countAhead_L84 n a0 l48_3 K119 n (0 : Int32) S80 : Option aSt)) fun K80 =>
    if r63 = 0 then (K80 (0 : Int32)) else
    (F_X1_trueCards n l48S a1 l48_3).bind fun r71 =>
    K80 (r71 &&& r27)
def F_X2_countAhead (n : Nat) (S : aSt) (a0 : Nat) (a1 : Nat) : Option aSt :=
nm (stI S a0 3 (S.1 a1 8)) fun S5 =>
nm (stI S5 a0 4 (S5.1 a1 7)) fun S13 =>
nm (stI S13 a0 5 ((1 : Int32) <<< ((S13.1 a0 4) &&& 31))) fun S23 =>
(F_X1_freeCards n S23 a1).bind fun r27 =>
rfd (S23.2.2 a0 1) 7 fun k32 =>
(F_J7_fill_53178 n S23 k32 (0 : Int32)).bind fun S36 =>
rfd (S36.2.2 a0 1) 7 fun k40 =>
grd (inb (0 : Int32) (SH k40).2) <|
nm (stI S36 k40 (0 : Int32).toNatClampNeg (1 : Int32)) fun S45 =>
jn (fun (x125S : aSt) => (some x125S : Option aSt)) fun K125 =>
F_X2_countAhead_L48 n a0 a1 r27 K125 n (0 : Int32) S45
set_option maxHeartbeats 4000000 in
set_option maxRecDepth 100000 in
theorem C_X2_countAhead (G : aG) (l : Launch) (n : Nat) (S : aSt) (a0 : Nat) (a1 : Nat) (Sr : aSt) (ha0 : isT a0 1 = true) (ha1 : isT a1 0 = true) (hf : F_X2_countAhead n S a0 a1 = some Sr) : Ctr G l yX2_countAhead mX2_countAhead (rmM 5) 97 97 S [.ref a0, .ref a1] none Sr := by
  refine Ctr.of (by decide) rfl rfl (Nat.le_of_ble_eq_true rfl) [(0, .ref a0), (1, .ref a1)] rfl ?_
  unfold F_X2_countAhead at hf
  refine Go.aload_n 0 1 rfl dX2_countAhead_0 rfl ?_
  refine Go.aload_n 1 2 rfl dX2_countAhead_1 rfl ?_
  refine Go.getI 5 rfl dX2_countAhead_2 fl_X2_48 rfl (isT_lt ha1) (isT_sh ha1) ?_
  obtain ⟨S5, eS5, hf⟩ := f_nm hf
  refine Go.putI 8 rfl dX2_countAhead_5 fp_X2_21 rfl (isT_lt ha0) (isT_sh ha0) (fun h => by cases h) (Go.stt S5 eS5 ?_)
  refine Go.aload_n 0 9 rfl dX2_countAhead_8 rfl ?_
  refine Go.aload_n 1 10 rfl dX2_countAhead_9 rfl ?_
  refine Go.getI 13 rfl dX2_countAhead_10 fl_X2_51 rfl (isT_lt ha1) (isT_sh ha1) ?_
  obtain ⟨S13, eS13, hf⟩ := f_nm hf
  refine Go.putI 16 rfl dX2_countAhead_13 fp_X2_25 rfl (isT_lt ha0) (isT_sh ha0) (fun h => by cases h) (Go.stt S13 eS13 ?_)
  refine Go.aload_n 0 17 rfl dX2_countAhead_16 rfl ?_
  refine Go.iconst (1 : Int32) 18 rfl dX2_countAhead_17 ci_1 ?_
  refine Go.aload_n 0 19 rfl dX2_countAhead_18 rfl ?_
  refine Go.getI 22 rfl dX2_countAhead_19 fl_X2_25 rfl (isT_lt ha0) (isT_sh ha0) ?_
  refine Go.ishl 23 rfl dX2_countAhead_22 ?_
  obtain ⟨S23, eS23, hf⟩ := f_nm hf
  refine Go.putI 26 rfl dX2_countAhead_23 fp_X2_28 rfl (isT_lt ha0) (isT_sh ha0) (fun h => by cases h) (Go.stt S23 eS23 ?_)
  refine Go.aload_n 1 27 rfl dX2_countAhead_26 rfl ?_
  obtain ⟨r27, er27, hf⟩ := f_bnd hf
  refine Go.cV 30 [] [] (C_X1_freeCards G l n S23 a1 r27 ha1 er27) rfl dX2_countAhead_27 cv_X2_52 ha1 (by decide) (by decide) rfl (Nat.le_of_ble_eq_true rfl) ?_
  refine Go.istore_n 31 [(2, .int r27), (0, .ref a0), (1, .ref a1)] rfl dX2_countAhead_30 (by decide) rfl ?_
  refine Go.aload_n 1 32 rfl dX2_countAhead_31 rfl ?_
  obtain ⟨k32, qk32, hk32, hf⟩ := f_rfd hf
  refine Go.getR 35 rfl dX2_countAhead_32 fl_X2_15 rfl (isT_lt ha0) (isT_sh ha0) qk32 ?_
  refine Go.iconst (0 : Int32) 36 rfl dX2_countAhead_35 ci_0 ?_
  obtain ⟨S36, eS36, hf⟩ := f_bnd hf
  refine Go.cSv 39 [.ref k32, .int (0 : Int32)] [] (C_J7_fill_53178 G l n S23 k32 (0 : Int32) S36 hk32 eS36) rfl dX2_countAhead_36 cx_X2_55 (by decide) (by decide) rfl (Nat.le_of_ble_eq_true rfl) ?_
  refine Go.aload_n 1 40 rfl dX2_countAhead_39 rfl ?_
  obtain ⟨k40, qk40, hk40, hf⟩ := f_rfd hf
  refine Go.getR 43 rfl dX2_countAhead_40 fl_X2_15 rfl (isT_lt ha0) (isT_sh ha0) qk40 ?_
  refine Go.iconst (0 : Int32) 44 rfl dX2_countAhead_43 ci_0 ?_
  refine Go.iconst (1 : Int32) 45 rfl dX2_countAhead_44 ci_1 ?_
  obtain ⟨g45, hf⟩ := f_grd hf
  obtain ⟨S45, eS45, hf⟩ := f_nm hf
  refine Go.iast 46 rfl dX2_countAhead_45 (isT_lt hk40) (isT_sh hk40) g45 (Go.stt S45 eS45 ?_)
  refine Go.iconst (0 : Int32) 47 rfl dX2_countAhead_46 ci_0 ?_
  refine Go.istore_n 48 [(3, .int (0 : Int32)), (2, .int r27), (0, .ref a0), (1, .ref a1)] rfl dX2_countAhead_47 (by decide) rfl ?_
  obtain ⟨K125, eK125, hf⟩ := f_jn hf
  have J125 : ∀ (x125S : aSt), K125 x125S = some Sr → GoM G l 5 (TmR G none 97 Sr 0 0) mX2_countAhead 125 [] [] x125S := by
    intro x125S hf
    rw [eK125] at hf
    exact Go.vr rfl dX2_countAhead_125 hf
  clear eK125
  have L48 : ∀ (fu : Nat) (l48_3 : Int32) (l48S : aSt), F_X2_countAhead_L48 n a0 a1 r27 K125 fu l48_3 l48S = some Sr → GoM G l 5 (TmR G none 97 Sr 0 0) mX2_countAhead 48 [(0, .ref a0), (1, .ref a1), (2, .int r27), (3, .int l48_3)] [] l48S := by
    intro fu
    induction fu with
    | zero => intro l48_3 l48S hf; rw [F_X2_countAhead_L48] at hf; cases hf
    | succ fu ih =>
      intro l48_3 l48S hf
      rw [F_X2_countAhead_L48] at hf
      refine Go.iload_n 3 49 rfl dX2_countAhead_48 rfl ?_
      refine Go.aload_n 0 50 rfl dX2_countAhead_49 rfl ?_
      refine Go.getI 53 rfl dX2_countAhead_50 fl_X2_21 rfl (isT_lt ha0) (isT_sh ha0) ?_
      refine Go.icmp_ge 125 56 rfl dX2_countAhead_53 rfl (fun hc => ?_) (fun hc => ?_)
      · replace hf := f_if hf hc
        exact Go.sub [] [] rfl (J125 l48S hf)
      · replace hf := f_el hf hc
        refine Go.aload_n 0 57 rfl dX2_countAhead_56 rfl ?_
        obtain ⟨k57, qk57, hk57, hf⟩ := f_rfd hf
        refine Go.getR 60 rfl dX2_countAhead_57 fl_X2_9 rfl (isT_lt ha0) (isT_sh ha0) qk57 ?_
        refine Go.iload_n 3 61 rfl dX2_countAhead_60 rfl ?_
        refine Go.aload_n 1 62 rfl dX2_countAhead_61 rfl ?_
        refine Go.iload_n 3 63 rfl dX2_countAhead_62 rfl ?_
        obtain ⟨r63, er63, hf⟩ := f_bnd hf
        refine Go.cV 66 [.int l48_3] [.int l48_3, .ref k57] (C_X1_isFreeQuestion G l n l48S a1 l48_3 r63 ha1 er63) rfl dX2_countAhead_63 cv_X2_61 ha1 (by decide) (by decide) rfl (Nat.le_of_ble_eq_true rfl) ?_
        obtain ⟨K80, eK80, hf⟩ := f_jn hf
        have J80 : ∀ (j80s2 : Int32), K80 j80s2 = some Sr → GoM G l 5 (TmR G none 97 Sr 0 0) mX2_countAhead 80 [(0, .ref a0), (1, .ref a1), (2, .int r27), (3, .int l48_3)] [.int j80s2, .int l48_3, .ref k57] l48S := by
          intro j80s2 hf
          rw [eK80] at hf
          obtain ⟨g80, hf⟩ := f_grd hf
          obtain ⟨S80, eS80, hf⟩ := f_nm hf
          refine Go.iast 81 rfl dX2_countAhead_80 (isT_lt hk57) (isT_sh hk57) g80 (Go.stt S80 eS80 ?_)
          refine Go.iconst (0 : Int32) 82 rfl dX2_countAhead_81 ci_0 ?_
          refine Go.istore 84 [(4, .int (0 : Int32)), (0, .ref a0), (1, .ref a1), (2, .int r27), (3, .int l48_3)] rfl dX2_countAhead_82 (by decide) rfl ?_
          obtain ⟨K119, eK119, hf⟩ := f_jn hf
          have J119 : ∀ (x119S : aSt), K119 x119S = some Sr → GoM G l 5 (TmR G none 97 Sr 0 0) mX2_countAhead 119 [(0, .ref a0), (1, .ref a1), (2, .int r27), (3, .int l48_3)] [] x119S := by
            intro x119S hf
            rw [eK119] at hf
            refine Go.inc 3 122 (1 : Int32) [(3, .int (l48_3 + (1 : Int32))), (0, .ref a0), (1, .ref a1), (2, .int r27)] rfl dX2_countAhead_119 rfl ci_1 (by decide) rfl ?_
            refine Go.goto 48 dX2_countAhead_122 rfl ?_
            exact Go.sub [1, 2, 3, 0] [(0, .ref a0), (1, .ref a1), (2, .int r27), (3, .int (l48_3 + (1 : Int32)))] rfl (ih (l48_3 + (1 : Int32)) x119S hf)
          clear eK119
          have L84 : ∀ (fu : Nat) (l84_4 : Int32) (l84S : aSt), F_X2_countAhead_L84 n a0 l48_3 K119 fu l84_4 l84S = some Sr → GoM G l 5 (TmR G none 97 Sr 0 0) mX2_countAhead 84 [(0, .ref a0), (1, .ref a1), (2, .int r27), (3, .int l48_3), (4, .int l84_4)] [] l84S := by
            intro fu
            induction fu with
            | zero => intro l84_4 l84S hf; rw [F_X2_countAhead_L84] at hf; cases hf
            | succ fu ih =>
              intro l84_4 l84S hf
              rw [F_X2_countAhead_L84] at hf
              refine Go.iload 4 86 rfl dX2_countAhead_84 rfl ?_
              refine Go.aload_n 0 87 rfl dX2_countAhead_86 rfl ?_
              refine Go.getI 90 rfl dX2_countAhead_87 fl_X2_28 rfl (isT_lt ha0) (isT_sh ha0) ?_
              refine Go.icmp_ge 119 93 rfl dX2_countAhead_90 rfl (fun hc => ?_) (fun hc => ?_)
              · replace hf := f_if hf hc
                exact Go.sub [0, 1, 2, 3] [(0, .ref a0), (1, .ref a1), (2, .int r27), (3, .int l48_3)] rfl (J119 l84S hf)
              · replace hf := f_el hf hc
                refine Go.aload_n 0 94 rfl dX2_countAhead_93 rfl ?_
                refine Go.iload_n 3 95 rfl dX2_countAhead_94 rfl ?_
                refine Go.iload 4 97 rfl dX2_countAhead_95 rfl ?_
                refine Go.aload_n 0 98 rfl dX2_countAhead_97 rfl ?_
                obtain ⟨k98, qk98, hk98, hf⟩ := f_rfd hf
                refine Go.getR 101 rfl dX2_countAhead_98 fl_X2_15 rfl (isT_lt ha0) (isT_sh ha0) qk98 ?_
                refine Go.iload_n 3 102 rfl dX2_countAhead_101 rfl ?_
                refine Go.sipush (128 : Int32) 105 rfl dX2_countAhead_102 cs_128 ?_
                refine Go.imul 106 rfl dX2_countAhead_105 ?_
                refine Go.iload 4 108 rfl dX2_countAhead_106 rfl ?_
                refine Go.iadd 109 rfl dX2_countAhead_108 ?_
                obtain ⟨g109, hf⟩ := f_grd hf
                refine Go.iald 110 rfl dX2_countAhead_109 (isT_lt hk98) (isT_sh hk98) g109 ?_
                obtain ⟨S110, eS110, hf⟩ := f_bnd hf
                refine Go.cVv 113 [.int l48_3, .int l84_4, .int (l84S.1 k98 ((l48_3 * (128 : Int32)) + l84_4).toNatClampNeg)] [] (C_X2_spreadAhead G l n l84S a0 l48_3 l84_4 (l84S.1 k98 ((l48_3 * (128 : Int32)) + l84_4).toNatClampNeg) S110 ha0 eS110) rfl dX2_countAhead_110 cv_X2_69 ha0 (by decide) (by decide) rfl (Nat.le_of_ble_eq_true rfl) ?_
                refine Go.inc 4 116 (1 : Int32) [(4, .int (l84_4 + (1 : Int32))), (0, .ref a0), (1, .ref a1), (2, .int r27), (3, .int l48_3)] rfl dX2_countAhead_113 rfl ci_1 (by decide) rfl ?_
                refine Go.goto 84 dX2_countAhead_116 rfl ?_
                exact Go.sub [1, 2, 3, 4, 0] [(0, .ref a0), (1, .ref a1), (2, .int r27), (3, .int l48_3), (4, .int (l84_4 + (1 : Int32)))] rfl (ih (l84_4 + (1 : Int32)) S110 hf)
          exact Go.sub [1, 2, 3, 4, 0] [(0, .ref a0), (1, .ref a1), (2, .int r27), (3, .int l48_3), (4, .int (0 : Int32))] rfl (L84 n (0 : Int32) S80 hf)
        clear eK80
        refine Go.if_eq 79 69 rfl dX2_countAhead_66 rfl (fun hc => ?_) (fun hc => ?_)
        · replace hf := f_if hf hc
          refine Go.iconst (0 : Int32) 80 rfl dX2_countAhead_79 ci_0 ?_
          exact J80 (0 : Int32) hf
        · replace hf := f_el hf hc
          refine Go.aload_n 1 70 rfl dX2_countAhead_69 rfl ?_
          refine Go.iload_n 3 71 rfl dX2_countAhead_70 rfl ?_
          obtain ⟨r71, er71, hf⟩ := f_bnd hf
          refine Go.cV 74 [.int l48_3] [.int l48_3, .ref k57] (C_X1_trueCards G l n l48S a1 l48_3 r71 ha1 er71) rfl dX2_countAhead_71 cv_X2_65 ha1 (by decide) (by decide) rfl (Nat.le_of_ble_eq_true rfl) ?_
          refine Go.iload_n 2 75 rfl dX2_countAhead_74 rfl ?_
          refine Go.iand 76 rfl dX2_countAhead_75 ?_
          refine Go.goto 80 dX2_countAhead_76 rfl ?_
          exact J80 (r71 &&& r27) hf
  exact Go.sub [2, 3, 1, 0] [(0, .ref a0), (1, .ref a1), (2, .int r27), (3, .int (0 : Int32))] rfl (L48 n (0 : Int32) S45 hf)
theorem dX2_waysFrom_0 : decode cX2_waysFrom 0 = .ok (.iload_n 1, 1) := by decide +kernel
theorem dX2_waysFrom_1 : decode cX2_waysFrom 1 = .ok (.iconst 1, 1) := by decide +kernel
theorem dX2_waysFrom_2 : decode cX2_waysFrom 2 = .ok (.iadd, 1) := by decide +kernel
theorem dX2_waysFrom_3 : decode cX2_waysFrom 3 = .ok (.sipush 128, 3) := by decide +kernel
theorem dX2_waysFrom_6 : decode cX2_waysFrom 6 = .ok (.imul, 1) := by decide +kernel
theorem dX2_waysFrom_7 : decode cX2_waysFrom 7 = .ok (.istore_n 3, 1) := by decide +kernel
theorem dX2_waysFrom_8 : decode cX2_waysFrom 8 = .ok (.aload_n 0, 1) := by decide +kernel
theorem dX2_waysFrom_9 : decode cX2_waysFrom 9 = .ok (.getfield 18, 3) := by decide +kernel
theorem dX2_waysFrom_12 : decode cX2_waysFrom 12 = .ok (.iload_n 3, 1) := by decide +kernel
theorem dX2_waysFrom_13 : decode cX2_waysFrom 13 = .ok (.iload_n 2, 1) := by decide +kernel
theorem dX2_waysFrom_14 : decode cX2_waysFrom 14 = .ok (.iadd, 1) := by decide +kernel
theorem dX2_waysFrom_15 : decode cX2_waysFrom 15 = .ok (.iaload, 1) := by decide +kernel
theorem dX2_waysFrom_16 : decode cX2_waysFrom 16 = .ok (.istore 4, 2) := by decide +kernel
theorem dX2_waysFrom_18 : decode cX2_waysFrom 18 = .ok (.aload_n 0, 1) := by decide +kernel
theorem dX2_waysFrom_19 : decode cX2_waysFrom 19 = .ok (.getfield 9, 3) := by decide +kernel
theorem dX2_waysFrom_22 : decode cX2_waysFrom 22 = .ok (.iload_n 1, 1) := by decide +kernel
theorem dX2_waysFrom_23 : decode cX2_waysFrom 23 = .ok (.iaload, 1) := by decide +kernel
theorem dX2_waysFrom_24 : decode cX2_waysFrom 24 = .ok (.iload_n 2, 1) := by decide +kernel
theorem dX2_waysFrom_25 : decode cX2_waysFrom 25 = .ok (.iconst (-1), 1) := by decide +kernel
theorem dX2_waysFrom_26 : decode cX2_waysFrom 26 = .ok (.ixor, 1) := by decide +kernel
theorem dX2_waysFrom_27 : decode cX2_waysFrom 27 = .ok (.iand, 1) := by decide +kernel
theorem dX2_waysFrom_28 : decode cX2_waysFrom 28 = .ok (.istore 5, 2) := by decide +kernel
theorem dX2_waysFrom_30 : decode cX2_waysFrom 30 = .ok (.iconst 0, 1) := by decide +kernel
theorem dX2_waysFrom_31 : decode cX2_waysFrom 31 = .ok (.istore 6, 2) := by decide +kernel
theorem dX2_waysFrom_33 : decode cX2_waysFrom 33 = .ok (.iload 6, 2) := by decide +kernel
theorem dX2_waysFrom_35 : decode cX2_waysFrom 35 = .ok (.aload_n 0, 1) := by decide +kernel
theorem dX2_waysFrom_36 : decode cX2_waysFrom 36 = .ok (.getfield 25, 3) := by decide +kernel
theorem dX2_waysFrom_39 : decode cX2_waysFrom 39 = .ok (.if_icmp .ge 37, 3) := by decide +kernel
theorem dX2_waysFrom_42 : decode cX2_waysFrom 42 = .ok (.iload 5, 2) := by decide +kernel
theorem dX2_waysFrom_44 : decode cX2_waysFrom 44 = .ok (.iconst 1, 1) := by decide +kernel
theorem dX2_waysFrom_45 : decode cX2_waysFrom 45 = .ok (.iload 6, 2) := by decide +kernel
theorem dX2_waysFrom_47 : decode cX2_waysFrom 47 = .ok (.ishl, 1) := by decide +kernel
theorem dX2_waysFrom_48 : decode cX2_waysFrom 48 = .ok (.iand, 1) := by decide +kernel
theorem dX2_waysFrom_49 : decode cX2_waysFrom 49 = .ok (.ifCond .eq 21, 3) := by decide +kernel
theorem dX2_waysFrom_52 : decode cX2_waysFrom 52 = .ok (.iload 4, 2) := by decide +kernel
theorem dX2_waysFrom_54 : decode cX2_waysFrom 54 = .ok (.aload_n 0, 1) := by decide +kernel
theorem dX2_waysFrom_55 : decode cX2_waysFrom 55 = .ok (.getfield 18, 3) := by decide +kernel
theorem dX2_waysFrom_58 : decode cX2_waysFrom 58 = .ok (.iload_n 3, 1) := by decide +kernel
theorem dX2_waysFrom_59 : decode cX2_waysFrom 59 = .ok (.iload_n 2, 1) := by decide +kernel
theorem dX2_waysFrom_60 : decode cX2_waysFrom 60 = .ok (.iconst 1, 1) := by decide +kernel
theorem dX2_waysFrom_61 : decode cX2_waysFrom 61 = .ok (.iload 6, 2) := by decide +kernel
theorem dX2_waysFrom_63 : decode cX2_waysFrom 63 = .ok (.ishl, 1) := by decide +kernel
theorem dX2_waysFrom_64 : decode cX2_waysFrom 64 = .ok (.ior, 1) := by decide +kernel
theorem dX2_waysFrom_65 : decode cX2_waysFrom 65 = .ok (.iadd, 1) := by decide +kernel
theorem dX2_waysFrom_66 : decode cX2_waysFrom 66 = .ok (.iaload, 1) := by decide +kernel
theorem dX2_waysFrom_67 : decode cX2_waysFrom 67 = .ok (.iadd, 1) := by decide +kernel
theorem dX2_waysFrom_68 : decode cX2_waysFrom 68 = .ok (.istore 4, 2) := by decide +kernel
theorem dX2_waysFrom_70 : decode cX2_waysFrom 70 = .ok (.iinc 6 1, 3) := by decide +kernel
theorem dX2_waysFrom_73 : decode cX2_waysFrom 73 = .ok (.goto (-40), 3) := by decide +kernel
theorem dX2_waysFrom_76 : decode cX2_waysFrom 76 = .ok (.iload 4, 2) := by decide +kernel
theorem dX2_waysFrom_78 : decode cX2_waysFrom 78 = .ok (.ireturn, 1) := by decide +kernel
def F_X2_waysFrom_L33 (S : aSt) (a0 : Nat) (a2 : Int32) (v7 : Int32) (k9 : Nat) (v28 : Int32) (K76 : Int32 → Option Int32) : Nat → Int32 → Int32 → Option Int32
  | 0, _, _ => none
  | fu + 1, l33_4, l33_6 =>
    if (S.1 a0 4) ≤ l33_6 then (K76 l33_4) else
    jn (fun (j70_4 : Int32) => (F_X2_waysFrom_L33 S a0 a2 v7 k9 v28 K76 fu j70_4 (l33_6 + (1 : Int32)) : Option Int32)) fun K70 =>
    if (v28 &&& ((1 : Int32) <<< (l33_6 &&& 31))) = 0 then (K70 l33_4) else
    grd (inb (v7 + (a2 ||| ((1 : Int32) <<< (l33_6 &&& 31)))) (SH k9).2) <|
    nm (l33_4 + (S.1 k9 (v7 + (a2 ||| ((1 : Int32) <<< (l33_6 &&& 31)))).toNatClampNeg)) fun v68 =>
    K70 v68
def F_X2_waysFrom (n : Nat) (S : aSt) (a0 : Nat) (a1 : Int32) (a2 : Int32) : Option Int32 :=
nm ((a1 + (1 : Int32)) * (128 : Int32)) fun v7 =>
rfd (S.2.2 a0 2) 7 fun k9 =>
grd (inb (v7 + a2) (SH k9).2) <|
nm (S.1 k9 (v7 + a2).toNatClampNeg) fun v16 =>
rfd (S.2.2 a0 0) 7 fun k19 =>
grd (inb a1 (SH k19).2) <|
nm ((S.1 k19 a1.toNatClampNeg) &&& (a2 ^^^ (-1 : Int32))) fun v28 =>
jn (fun (x76_4 : Int32) => (some x76_4 : Option Int32)) fun K76 =>
F_X2_waysFrom_L33 S a0 a2 v7 k9 v28 K76 n v16 (0 : Int32)
set_option maxHeartbeats 4000000 in
set_option maxRecDepth 100000 in
theorem C_X2_waysFrom (G : aG) (l : Launch) (n : Nat) (S : aSt) (a0 : Nat) (a1 : Int32) (a2 : Int32) (r : Int32) (ha0 : isT a0 1 = true) (hf : F_X2_waysFrom n S a0 a1 a2 = some r) : Ctr G l yX2_waysFrom mX2_waysFrom (rmM 1) 97 97 S [.ref a0, .int a1, .int a2] (some (.int r)) S := by
  refine Ctr.of (by decide) rfl rfl (Nat.le_of_ble_eq_true rfl) [(0, .ref a0), (1, .int a1), (2, .int a2)] rfl ?_
  unfold F_X2_waysFrom at hf
  refine Go.iload_n 1 1 rfl dX2_waysFrom_0 rfl ?_
  refine Go.iconst (1 : Int32) 2 rfl dX2_waysFrom_1 ci_1 ?_
  refine Go.iadd 3 rfl dX2_waysFrom_2 ?_
  refine Go.sipush (128 : Int32) 6 rfl dX2_waysFrom_3 cs_128 ?_
  refine Go.imul 7 rfl dX2_waysFrom_6 ?_
  obtain ⟨v7, ev7, hf⟩ := f_nm hf
  refine Go.topi v7 ev7 ?_
  refine Go.istore_n 8 [(3, .int v7), (0, .ref a0), (1, .int a1), (2, .int a2)] rfl dX2_waysFrom_7 (by decide) rfl ?_
  refine Go.aload_n 1 9 rfl dX2_waysFrom_8 rfl ?_
  obtain ⟨k9, qk9, hk9, hf⟩ := f_rfd hf
  refine Go.getR 12 rfl dX2_waysFrom_9 fl_X2_18 rfl (isT_lt ha0) (isT_sh ha0) qk9 ?_
  refine Go.iload_n 0 13 rfl dX2_waysFrom_12 rfl ?_
  refine Go.iload_n 3 14 rfl dX2_waysFrom_13 rfl ?_
  refine Go.iadd 15 rfl dX2_waysFrom_14 ?_
  obtain ⟨g15, hf⟩ := f_grd hf
  refine Go.iald 16 rfl dX2_waysFrom_15 (isT_lt hk9) (isT_sh hk9) g15 ?_
  obtain ⟨v16, ev16, hf⟩ := f_nm hf
  refine Go.topi v16 ev16 ?_
  refine Go.istore 18 [(4, .int v16), (3, .int v7), (0, .ref a0), (1, .int a1), (2, .int a2)] rfl dX2_waysFrom_16 (by decide) rfl ?_
  refine Go.aload_n 2 19 rfl dX2_waysFrom_18 rfl ?_
  obtain ⟨k19, qk19, hk19, hf⟩ := f_rfd hf
  refine Go.getR 22 rfl dX2_waysFrom_19 fl_X2_9 rfl (isT_lt ha0) (isT_sh ha0) qk19 ?_
  refine Go.iload_n 3 23 rfl dX2_waysFrom_22 rfl ?_
  obtain ⟨g23, hf⟩ := f_grd hf
  refine Go.iald 24 rfl dX2_waysFrom_23 (isT_lt hk19) (isT_sh hk19) g23 ?_
  refine Go.iload_n 4 25 rfl dX2_waysFrom_24 rfl ?_
  refine Go.iconst (-1 : Int32) 26 rfl dX2_waysFrom_25 ci_m1 ?_
  refine Go.ixor 27 rfl dX2_waysFrom_26 ?_
  refine Go.iand 28 rfl dX2_waysFrom_27 ?_
  obtain ⟨v28, ev28, hf⟩ := f_nm hf
  refine Go.topi v28 ev28 ?_
  refine Go.istore 30 [(5, .int v28), (4, .int v16), (3, .int v7), (0, .ref a0), (1, .int a1), (2, .int a2)] rfl dX2_waysFrom_28 (by decide) rfl ?_
  refine Go.iconst (0 : Int32) 31 rfl dX2_waysFrom_30 ci_0 ?_
  refine Go.istore 33 [(6, .int (0 : Int32)), (5, .int v28), (4, .int v16), (3, .int v7), (0, .ref a0), (1, .int a1), (2, .int a2)] rfl dX2_waysFrom_31 (by decide) rfl ?_
  obtain ⟨K76, eK76, hf⟩ := f_jn hf
  have J76 : ∀ (x76_4 : Int32), K76 x76_4 = some r → GoM G l 1 (TmR G (some (.int r)) 97 S 0 0) mX2_waysFrom 76 [(4, .int x76_4)] [] S := by
    intro x76_4 hf
    rw [eK76] at hf
    refine Go.iload 0 78 rfl dX2_waysFrom_76 rfl ?_
    exact Go.ir rfl dX2_waysFrom_78 hf
  clear eK76
  have L33 : ∀ (fu : Nat) (l33_4 : Int32) (l33_6 : Int32), F_X2_waysFrom_L33 S a0 a2 v7 k9 v28 K76 fu l33_4 l33_6 = some r → GoM G l 1 (TmR G (some (.int r)) 97 S 0 0) mX2_waysFrom 33 [(0, .ref a0), (2, .int a2), (3, .int v7), (4, .int l33_4), (5, .int v28), (6, .int l33_6)] [] S := by
    intro fu
    induction fu with
    | zero => intro l33_4 l33_6 hf; rw [F_X2_waysFrom_L33] at hf; cases hf
    | succ fu ih =>
      intro l33_4 l33_6 hf
      rw [F_X2_waysFrom_L33] at hf
      refine Go.iload 5 35 rfl dX2_waysFrom_33 rfl ?_
      refine Go.aload_n 0 36 rfl dX2_waysFrom_35 rfl ?_
      refine Go.getI 39 rfl dX2_waysFrom_36 fl_X2_25 rfl (isT_lt ha0) (isT_sh ha0) ?_
      refine Go.icmp_ge 76 42 rfl dX2_waysFrom_39 rfl (fun hc => ?_) (fun hc => ?_)
      · replace hf := f_if hf hc
        exact Go.sub [3] [(4, .int l33_4)] rfl (J76 l33_4 hf)
      · replace hf := f_el hf hc
        refine Go.iload 4 44 rfl dX2_waysFrom_42 rfl ?_
        refine Go.iconst (1 : Int32) 45 rfl dX2_waysFrom_44 ci_1 ?_
        refine Go.iload 5 47 rfl dX2_waysFrom_45 rfl ?_
        refine Go.ishl 48 rfl dX2_waysFrom_47 ?_
        refine Go.iand 49 rfl dX2_waysFrom_48 ?_
        obtain ⟨K70, eK70, hf⟩ := f_jn hf
        have J70 : ∀ (j70_4 : Int32), K70 j70_4 = some r → GoM G l 1 (TmR G (some (.int r)) 97 S 0 0) mX2_waysFrom 70 [(0, .ref a0), (2, .int a2), (3, .int v7), (4, .int j70_4), (5, .int v28), (6, .int l33_6)] [] S := by
          intro j70_4 hf
          rw [eK70] at hf
          refine Go.inc 5 73 (1 : Int32) [(6, .int (l33_6 + (1 : Int32))), (0, .ref a0), (2, .int a2), (3, .int v7), (4, .int j70_4), (5, .int v28)] rfl dX2_waysFrom_70 rfl ci_1 (by decide) rfl ?_
          refine Go.goto 33 dX2_waysFrom_73 rfl ?_
          exact Go.sub [1, 2, 3, 4, 5, 0] [(0, .ref a0), (2, .int a2), (3, .int v7), (4, .int j70_4), (5, .int v28), (6, .int (l33_6 + (1 : Int32)))] rfl (ih j70_4 (l33_6 + (1 : Int32)) hf)
        clear eK70
        refine Go.if_eq 70 52 rfl dX2_waysFrom_49 rfl (fun hc => ?_) (fun hc => ?_)
        · replace hf := f_if hf hc
          exact J70 l33_4 hf
        · replace hf := f_el hf hc
          refine Go.iload 3 54 rfl dX2_waysFrom_52 rfl ?_
          refine Go.aload_n 0 55 rfl dX2_waysFrom_54 rfl ?_
          refine Go.getR 58 rfl dX2_waysFrom_55 fl_X2_18 rfl (isT_lt ha0) (isT_sh ha0) qk9 ?_
          refine Go.iload_n 2 59 rfl dX2_waysFrom_58 rfl ?_
          refine Go.iload_n 1 60 rfl dX2_waysFrom_59 rfl ?_
          refine Go.iconst (1 : Int32) 61 rfl dX2_waysFrom_60 ci_1 ?_
          refine Go.iload 5 63 rfl dX2_waysFrom_61 rfl ?_
          refine Go.ishl 64 rfl dX2_waysFrom_63 ?_
          refine Go.ior 65 rfl dX2_waysFrom_64 ?_
          refine Go.iadd 66 rfl dX2_waysFrom_65 ?_
          obtain ⟨g66, hf⟩ := f_grd hf
          refine Go.iald 67 rfl dX2_waysFrom_66 (isT_lt hk9) (isT_sh hk9) g66 ?_
          refine Go.iadd 68 rfl dX2_waysFrom_67 ?_
          obtain ⟨v68, ev68, hf⟩ := f_nm hf
          refine Go.topi v68 ev68 ?_
          refine Go.istore 70 [(4, .int v68), (0, .ref a0), (2, .int a2), (3, .int v7), (5, .int v28), (6, .int l33_6)] rfl dX2_waysFrom_68 (by decide) rfl ?_
          exact Go.sub [1, 2, 3, 0, 4, 5] [(0, .ref a0), (2, .int a2), (3, .int v7), (4, .int v68), (5, .int v28), (6, .int l33_6)] rfl (J70 v68 hf)
  exact Go.sub [4, 6, 3, 2, 1, 0] [(0, .ref a0), (2, .int a2), (3, .int v7), (4, .int v16), (5, .int v28), (6, .int (0 : Int32))] rfl (L33 n v16 (0 : Int32) hf)
theorem dX2_countOn_0 : decode cX2_countOn 0 = .ok (.iconst 0, 1) := by decide +kernel
theorem dX2_countOn_1 : decode cX2_countOn 1 = .ok (.istore_n 1, 1) := by decide +kernel
theorem dX2_countOn_2 : decode cX2_countOn 2 = .ok (.iload_n 1, 1) := by decide +kernel
theorem dX2_countOn_3 : decode cX2_countOn 3 = .ok (.aload_n 0, 1) := by decide +kernel
theorem dX2_countOn_4 : decode cX2_countOn 4 = .ok (.getfield 28, 3) := by decide +kernel
theorem dX2_countOn_7 : decode cX2_countOn 7 = .ok (.if_icmp .ge 40, 3) := by decide +kernel
theorem dX2_countOn_10 : decode cX2_countOn 10 = .ok (.aload_n 0, 1) := by decide +kernel
theorem dX2_countOn_11 : decode cX2_countOn 11 = .ok (.getfield 18, 3) := by decide +kernel
theorem dX2_countOn_14 : decode cX2_countOn 14 = .ok (.aload_n 0, 1) := by decide +kernel
theorem dX2_countOn_15 : decode cX2_countOn 15 = .ok (.getfield 21, 3) := by decide +kernel
theorem dX2_countOn_18 : decode cX2_countOn 18 = .ok (.sipush 128, 3) := by decide +kernel
theorem dX2_countOn_21 : decode cX2_countOn 21 = .ok (.imul, 1) := by decide +kernel
theorem dX2_countOn_22 : decode cX2_countOn 22 = .ok (.iload_n 1, 1) := by decide +kernel
theorem dX2_countOn_23 : decode cX2_countOn 23 = .ok (.iadd, 1) := by decide +kernel
theorem dX2_countOn_24 : decode cX2_countOn 24 = .ok (.iload_n 1, 1) := by decide +kernel
theorem dX2_countOn_25 : decode cX2_countOn 25 = .ok (.invokestatic 73, 3) := by decide +kernel
theorem dX2_countOn_28 : decode cX2_countOn 28 = .ok (.aload_n 0, 1) := by decide +kernel
theorem dX2_countOn_29 : decode cX2_countOn 29 = .ok (.getfield 31, 3) := by decide +kernel
theorem dX2_countOn_32 : decode cX2_countOn 32 = .ok (.if_icmp .ne 7, 3) := by decide +kernel
theorem dX2_countOn_35 : decode cX2_countOn 35 = .ok (.iconst 1, 1) := by decide +kernel
theorem dX2_countOn_36 : decode cX2_countOn 36 = .ok (.goto 4, 3) := by decide +kernel
theorem dX2_countOn_39 : decode cX2_countOn 39 = .ok (.iconst 0, 1) := by decide +kernel
theorem dX2_countOn_40 : decode cX2_countOn 40 = .ok (.iastore, 1) := by decide +kernel
theorem dX2_countOn_41 : decode cX2_countOn 41 = .ok (.iinc 1 1, 3) := by decide +kernel
theorem dX2_countOn_44 : decode cX2_countOn 44 = .ok (.goto (-42), 3) := by decide +kernel
theorem dX2_countOn_47 : decode cX2_countOn 47 = .ok (.aload_n 0, 1) := by decide +kernel
theorem dX2_countOn_48 : decode cX2_countOn 48 = .ok (.getfield 21, 3) := by decide +kernel
theorem dX2_countOn_51 : decode cX2_countOn 51 = .ok (.iconst 1, 1) := by decide +kernel
theorem dX2_countOn_52 : decode cX2_countOn 52 = .ok (.isub, 1) := by decide +kernel
theorem dX2_countOn_53 : decode cX2_countOn 53 = .ok (.istore_n 1, 1) := by decide +kernel
theorem dX2_countOn_54 : decode cX2_countOn 54 = .ok (.iload_n 1, 1) := by decide +kernel
theorem dX2_countOn_55 : decode cX2_countOn 55 = .ok (.ifCond .lt 72, 3) := by decide +kernel
theorem dX2_countOn_58 : decode cX2_countOn 58 = .ok (.iconst 0, 1) := by decide +kernel
theorem dX2_countOn_59 : decode cX2_countOn 59 = .ok (.istore_n 2, 1) := by decide +kernel
theorem dX2_countOn_60 : decode cX2_countOn 60 = .ok (.iload_n 2, 1) := by decide +kernel
theorem dX2_countOn_61 : decode cX2_countOn 61 = .ok (.aload_n 0, 1) := by decide +kernel
theorem dX2_countOn_62 : decode cX2_countOn 62 = .ok (.getfield 28, 3) := by decide +kernel
theorem dX2_countOn_65 : decode cX2_countOn 65 = .ok (.if_icmp .ge 56, 3) := by decide +kernel
theorem dX2_countOn_68 : decode cX2_countOn 68 = .ok (.aload_n 0, 1) := by decide +kernel
theorem dX2_countOn_69 : decode cX2_countOn 69 = .ok (.getfield 15, 3) := by decide +kernel
theorem dX2_countOn_72 : decode cX2_countOn 72 = .ok (.iload_n 1, 1) := by decide +kernel
theorem dX2_countOn_73 : decode cX2_countOn 73 = .ok (.sipush 128, 3) := by decide +kernel
theorem dX2_countOn_76 : decode cX2_countOn 76 = .ok (.imul, 1) := by decide +kernel
theorem dX2_countOn_77 : decode cX2_countOn 77 = .ok (.iload_n 2, 1) := by decide +kernel
theorem dX2_countOn_78 : decode cX2_countOn 78 = .ok (.iadd, 1) := by decide +kernel
theorem dX2_countOn_79 : decode cX2_countOn 79 = .ok (.iaload, 1) := by decide +kernel
theorem dX2_countOn_80 : decode cX2_countOn 80 = .ok (.ifCond .le 7, 3) := by decide +kernel
theorem dX2_countOn_83 : decode cX2_countOn 83 = .ok (.iconst 1, 1) := by decide +kernel
theorem dX2_countOn_84 : decode cX2_countOn 84 = .ok (.goto 4, 3) := by decide +kernel
theorem dX2_countOn_87 : decode cX2_countOn 87 = .ok (.iconst 0, 1) := by decide +kernel
theorem dX2_countOn_88 : decode cX2_countOn 88 = .ok (.istore_n 3, 1) := by decide +kernel
theorem dX2_countOn_89 : decode cX2_countOn 89 = .ok (.aload_n 0, 1) := by decide +kernel
theorem dX2_countOn_90 : decode cX2_countOn 90 = .ok (.getfield 18, 3) := by decide +kernel
theorem dX2_countOn_93 : decode cX2_countOn 93 = .ok (.iload_n 1, 1) := by decide +kernel
theorem dX2_countOn_94 : decode cX2_countOn 94 = .ok (.sipush 128, 3) := by decide +kernel
theorem dX2_countOn_97 : decode cX2_countOn 97 = .ok (.imul, 1) := by decide +kernel
theorem dX2_countOn_98 : decode cX2_countOn 98 = .ok (.iload_n 2, 1) := by decide +kernel
theorem dX2_countOn_99 : decode cX2_countOn 99 = .ok (.iadd, 1) := by decide +kernel
theorem dX2_countOn_100 : decode cX2_countOn 100 = .ok (.iload_n 3, 1) := by decide +kernel
theorem dX2_countOn_101 : decode cX2_countOn 101 = .ok (.ifCond .eq 12, 3) := by decide +kernel
theorem dX2_countOn_104 : decode cX2_countOn 104 = .ok (.aload_n 0, 1) := by decide +kernel
theorem dX2_countOn_105 : decode cX2_countOn 105 = .ok (.iload_n 1, 1) := by decide +kernel
theorem dX2_countOn_106 : decode cX2_countOn 106 = .ok (.iload_n 2, 1) := by decide +kernel
theorem dX2_countOn_107 : decode cX2_countOn 107 = .ok (.invokevirtual 84, 3) := by decide +kernel
theorem dX2_countOn_110 : decode cX2_countOn 110 = .ok (.goto 4, 3) := by decide +kernel
theorem dX2_countOn_113 : decode cX2_countOn 113 = .ok (.iconst 0, 1) := by decide +kernel
theorem dX2_countOn_114 : decode cX2_countOn 114 = .ok (.iastore, 1) := by decide +kernel
theorem dX2_countOn_115 : decode cX2_countOn 115 = .ok (.iinc 2 1, 3) := by decide +kernel
theorem dX2_countOn_118 : decode cX2_countOn 118 = .ok (.goto (-58), 3) := by decide +kernel
theorem dX2_countOn_121 : decode cX2_countOn 121 = .ok (.iinc 1 (-1), 3) := by decide +kernel
theorem dX2_countOn_124 : decode cX2_countOn 124 = .ok (.goto (-70), 3) := by decide +kernel
theorem dX2_countOn_127 : decode cX2_countOn 127 = .ok (.return_, 1) := by decide +kernel
def F_X2_countOn_L60 (n : Nat) (a0 : Nat) (l54_1 : Int32) (K121 : aSt → Option aSt) : Nat → Int32 → aSt → Option aSt
  | 0, _, _ => none
  | fu + 1, l60_2, l60S =>
    if (l60S.1 a0 5) ≤ l60_2 then (K121 l60S) else
    rfd (l60S.2.2 a0 1) 7 fun k69 =>
    grd (inb ((l54_1 * (128 : Int32)) + l60_2) (SH k69).2) <|
    jn (fun (j88s0 : Int32) => (rfd (l60S.2.2 a0 2) 7 fun k90 =>
    jn (fun (j114s2 : Int32) => (grd (inb ((l54_1 * (128 : Int32)) + l60_2) (SH k90).2) <|
    nm (stI l60S k90 ((l54_1 * (128 : Int32)) + l60_2).toNatClampNeg j114s2) fun S114 =>
    F_X2_countOn_L60 n a0 l54_1 K121 fu (l60_2 + (1 : Int32)) S114 : Option aSt)) fun K114 =>
    if j88s0 = 0 then (K114 (0 : Int32)) else
    (F_X2_waysFrom n l60S a0 l54_1 l60_2).bind fun r107 =>
    K114 r107 : Option aSt)) fun K88 =>
    if (l60S.1 k69 ((l54_1 * (128 : Int32)) + l60_2).toNatClampNeg) ≤ 0 then (K88 (0 : Int32)) else
    K88 (1 : Int32)
def F_X2_countOn_L54 (n : Nat) (a0 : Nat) (K127 : aSt → Option aSt) : Nat → Int32 → aSt → Option aSt
  | 0, _, _ => none
  | fu + 1, l54_1, l54S =>
    if l54_1 < 0 then (K127 l54S) else
    jn (fun (x121S : aSt) => (F_X2_countOn_L54 n a0 K127 fu (l54_1 + (-1 : Int32)) x121S : Option aSt)) fun K121 =>
    F_X2_countOn_L60 n a0 l54_1 K121 n (0 : Int32) l54S
def F_X2_countOn_L2 (n : Nat) (a0 : Nat) (K47 : aSt → Option aSt) : Nat → Int32 → aSt → Option aSt
  | 0, _, _ => none
  | fu + 1, l2_1, l2S =>
    if (l2S.1 a0 5) ≤ l2_1 then (K47 l2S) else
    rfd (l2S.2.2 a0 2) 7 fun k11 =>
    (F_J6_bitCount_0f7a4 n l2S l2_1).bind fun r25 =>
    jn (fun (j40s2 : Int32) => (grd (inb (((l2S.1 a0 3) * (128 : Int32)) + l2_1) (SH k11).2) <|
    nm (stI l2S k11 (((l2S.1 a0 3) * (128 : Int32)) + l2_1).toNatClampNeg j40s2) fun S40 =>
    F_X2_countOn_L2 n a0 K47 fu (l2_1 + (1 : Int32)) S40 : Option aSt)) fun K40 =>
    if r25 = (l2S.1 a0 6) then (K40 (1 : Int32)) else
    K40 (0 : Int32)
def F_X2_countOn (n : Nat) (S : aSt) (a0 : Nat) : Option aSt :=
jn (fun (x47S : aSt) => (nm ((x47S.1 a0 3) - (1 : Int32)) fun v53 =>
jn (fun (x127S : aSt) => (some x127S : Option aSt)) fun K127 =>
F_X2_countOn_L54 n a0 K127 n v53 x47S : Option aSt)) fun K47 =>
F_X2_countOn_L2 n a0 K47 n (0 : Int32) S
set_option maxHeartbeats 4000000 in
set_option maxRecDepth 100000 in
theorem C_X2_countOn (G : aG) (l : Launch) (n : Nat) (S : aSt) (a0 : Nat) (Sr : aSt) (ha0 : isT a0 1 = true) (hf : F_X2_countOn n S a0 = some Sr) : Ctr G l yX2_countOn mX2_countOn (rmM 2) 97 97 S [.ref a0] none Sr := by
  refine Ctr.of (by decide) rfl rfl (Nat.le_of_ble_eq_true rfl) [(0, .ref a0)] rfl ?_
  unfold F_X2_countOn at hf
  refine Go.iconst (0 : Int32) 1 rfl dX2_countOn_0 ci_0 ?_
  refine Go.istore_n 2 [(1, .int (0 : Int32)), (0, .ref a0)] rfl dX2_countOn_1 (by decide) rfl ?_
  obtain ⟨K47, eK47, hf⟩ := f_jn hf
  have J47 : ∀ (x47S : aSt), K47 x47S = some Sr → GoM G l 2 (TmR G none 97 Sr 0 0) mX2_countOn 47 [(0, .ref a0)] [] x47S := by
    intro x47S hf
    rw [eK47] at hf
    refine Go.aload_n 0 48 rfl dX2_countOn_47 rfl ?_
    refine Go.getI 51 rfl dX2_countOn_48 fl_X2_21 rfl (isT_lt ha0) (isT_sh ha0) ?_
    refine Go.iconst (1 : Int32) 52 rfl dX2_countOn_51 ci_1 ?_
    refine Go.isub 53 rfl dX2_countOn_52 ?_
    obtain ⟨v53, ev53, hf⟩ := f_nm hf
    refine Go.topi v53 ev53 ?_
    refine Go.istore_n 54 [(1, .int v53), (0, .ref a0)] rfl dX2_countOn_53 (by decide) rfl ?_
    obtain ⟨K127, eK127, hf⟩ := f_jn hf
    have J127 : ∀ (x127S : aSt), K127 x127S = some Sr → GoM G l 2 (TmR G none 97 Sr 0 0) mX2_countOn 127 [] [] x127S := by
      intro x127S hf
      rw [eK127] at hf
      exact Go.vr rfl dX2_countOn_127 hf
    clear eK127
    have L54 : ∀ (fu : Nat) (l54_1 : Int32) (l54S : aSt), F_X2_countOn_L54 n a0 K127 fu l54_1 l54S = some Sr → GoM G l 2 (TmR G none 97 Sr 0 0) mX2_countOn 54 [(0, .ref a0), (1, .int l54_1)] [] l54S := by
      intro fu
      induction fu with
      | zero => intro l54_1 l54S hf; rw [F_X2_countOn_L54] at hf; cases hf
      | succ fu ih =>
        intro l54_1 l54S hf
        rw [F_X2_countOn_L54] at hf
        refine Go.iload_n 1 55 rfl dX2_countOn_54 rfl ?_
        refine Go.if_lt 127 58 rfl dX2_countOn_55 rfl (fun hc => ?_) (fun hc => ?_)
        · replace hf := f_if hf hc
          exact Go.sub [] [] rfl (J127 l54S hf)
        · replace hf := f_el hf hc
          refine Go.iconst (0 : Int32) 59 rfl dX2_countOn_58 ci_0 ?_
          refine Go.istore_n 60 [(2, .int (0 : Int32)), (0, .ref a0), (1, .int l54_1)] rfl dX2_countOn_59 (by decide) rfl ?_
          obtain ⟨K121, eK121, hf⟩ := f_jn hf
          have J121 : ∀ (x121S : aSt), K121 x121S = some Sr → GoM G l 2 (TmR G none 97 Sr 0 0) mX2_countOn 121 [(0, .ref a0), (1, .int l54_1)] [] x121S := by
            intro x121S hf
            rw [eK121] at hf
            refine Go.inc 1 124 (-1 : Int32) [(1, .int (l54_1 + (-1 : Int32))), (0, .ref a0)] rfl dX2_countOn_121 rfl ci_m1 (by decide) rfl ?_
            refine Go.goto 54 dX2_countOn_124 rfl ?_
            exact Go.sub [1, 0] [(0, .ref a0), (1, .int (l54_1 + (-1 : Int32)))] rfl (ih (l54_1 + (-1 : Int32)) x121S hf)
          clear eK121
          have L60 : ∀ (fu : Nat) (l60_2 : Int32) (l60S : aSt), F_X2_countOn_L60 n a0 l54_1 K121 fu l60_2 l60S = some Sr → GoM G l 2 (TmR G none 97 Sr 0 0) mX2_countOn 60 [(0, .ref a0), (1, .int l54_1), (2, .int l60_2)] [] l60S := by
            intro fu
            induction fu with
            | zero => intro l60_2 l60S hf; rw [F_X2_countOn_L60] at hf; cases hf
            | succ fu ih =>
              intro l60_2 l60S hf
              rw [F_X2_countOn_L60] at hf
              refine Go.iload_n 2 61 rfl dX2_countOn_60 rfl ?_
              refine Go.aload_n 0 62 rfl dX2_countOn_61 rfl ?_
              refine Go.getI 65 rfl dX2_countOn_62 fl_X2_28 rfl (isT_lt ha0) (isT_sh ha0) ?_
              refine Go.icmp_ge 121 68 rfl dX2_countOn_65 rfl (fun hc => ?_) (fun hc => ?_)
              · replace hf := f_if hf hc
                exact Go.sub [0, 1] [(0, .ref a0), (1, .int l54_1)] rfl (J121 l60S hf)
              · replace hf := f_el hf hc
                refine Go.aload_n 0 69 rfl dX2_countOn_68 rfl ?_
                obtain ⟨k69, qk69, hk69, hf⟩ := f_rfd hf
                refine Go.getR 72 rfl dX2_countOn_69 fl_X2_15 rfl (isT_lt ha0) (isT_sh ha0) qk69 ?_
                refine Go.iload_n 1 73 rfl dX2_countOn_72 rfl ?_
                refine Go.sipush (128 : Int32) 76 rfl dX2_countOn_73 cs_128 ?_
                refine Go.imul 77 rfl dX2_countOn_76 ?_
                refine Go.iload_n 2 78 rfl dX2_countOn_77 rfl ?_
                refine Go.iadd 79 rfl dX2_countOn_78 ?_
                obtain ⟨g79, hf⟩ := f_grd hf
                refine Go.iald 80 rfl dX2_countOn_79 (isT_lt hk69) (isT_sh hk69) g79 ?_
                obtain ⟨K88, eK88, hf⟩ := f_jn hf
                have J88 : ∀ (j88s0 : Int32), K88 j88s0 = some Sr → GoM G l 2 (TmR G none 97 Sr 0 0) mX2_countOn 88 [(0, .ref a0), (1, .int l54_1), (2, .int l60_2)] [.int j88s0] l60S := by
                  intro j88s0 hf
                  rw [eK88] at hf
                  refine Go.istore_n 89 [(3, .int j88s0), (0, .ref a0), (1, .int l54_1), (2, .int l60_2)] rfl dX2_countOn_88 (by decide) rfl ?_
                  refine Go.aload_n 1 90 rfl dX2_countOn_89 rfl ?_
                  obtain ⟨k90, qk90, hk90, hf⟩ := f_rfd hf
                  refine Go.getR 93 rfl dX2_countOn_90 fl_X2_18 rfl (isT_lt ha0) (isT_sh ha0) qk90 ?_
                  refine Go.iload_n 2 94 rfl dX2_countOn_93 rfl ?_
                  refine Go.sipush (128 : Int32) 97 rfl dX2_countOn_94 cs_128 ?_
                  refine Go.imul 98 rfl dX2_countOn_97 ?_
                  refine Go.iload_n 3 99 rfl dX2_countOn_98 rfl ?_
                  refine Go.iadd 100 rfl dX2_countOn_99 ?_
                  refine Go.iload_n 0 101 rfl dX2_countOn_100 rfl ?_
                  obtain ⟨K114, eK114, hf⟩ := f_jn hf
                  have J114 : ∀ (j114s2 : Int32), K114 j114s2 = some Sr → GoM G l 2 (TmR G none 97 Sr 0 0) mX2_countOn 114 [(0, .ref a0), (1, .int l54_1), (2, .int l60_2)] [.int j114s2, .int ((l54_1 * (128 : Int32)) + l60_2), .ref k90] l60S := by
                    intro j114s2 hf
                    rw [eK114] at hf
                    obtain ⟨g114, hf⟩ := f_grd hf
                    obtain ⟨S114, eS114, hf⟩ := f_nm hf
                    refine Go.iast 115 rfl dX2_countOn_114 (isT_lt hk90) (isT_sh hk90) g114 (Go.stt S114 eS114 ?_)
                    refine Go.inc 2 118 (1 : Int32) [(2, .int (l60_2 + (1 : Int32))), (0, .ref a0), (1, .int l54_1)] rfl dX2_countOn_115 rfl ci_1 (by decide) rfl ?_
                    refine Go.goto 60 dX2_countOn_118 rfl ?_
                    exact Go.sub [1, 2, 0] [(0, .ref a0), (1, .int l54_1), (2, .int (l60_2 + (1 : Int32)))] rfl (ih (l60_2 + (1 : Int32)) S114 hf)
                  clear eK114
                  refine Go.if_eq 113 104 rfl dX2_countOn_101 rfl (fun hc => ?_) (fun hc => ?_)
                  · replace hf := f_if hf hc
                    refine Go.iconst (0 : Int32) 114 rfl dX2_countOn_113 ci_0 ?_
                    exact Go.sub [1, 2, 3] [(0, .ref a0), (1, .int l54_1), (2, .int l60_2)] rfl (J114 (0 : Int32) hf)
                  · replace hf := f_el hf hc
                    refine Go.aload_n 1 105 rfl dX2_countOn_104 rfl ?_
                    refine Go.iload_n 2 106 rfl dX2_countOn_105 rfl ?_
                    refine Go.iload_n 3 107 rfl dX2_countOn_106 rfl ?_
                    obtain ⟨r107, er107, hf⟩ := f_bnd hf
                    refine Go.cV 110 [.int l54_1, .int l60_2] [.int ((l54_1 * (128 : Int32)) + l60_2), .ref k90] (C_X2_waysFrom G l n l60S a0 l54_1 l60_2 r107 ha0 er107) rfl dX2_countOn_107 cv_X2_84 ha0 (by decide) (by decide) rfl (Nat.le_of_ble_eq_true rfl) ?_
                    refine Go.goto 114 dX2_countOn_110 rfl ?_
                    exact Go.sub [1, 2, 3] [(0, .ref a0), (1, .int l54_1), (2, .int l60_2)] rfl (J114 r107 hf)
                clear eK88
                refine Go.if_le 87 83 rfl dX2_countOn_80 rfl (fun hc => ?_) (fun hc => ?_)
                · replace hf := f_if hf hc
                  refine Go.iconst (0 : Int32) 88 rfl dX2_countOn_87 ci_0 ?_
                  exact J88 (0 : Int32) hf
                · replace hf := f_el hf hc
                  refine Go.iconst (1 : Int32) 84 rfl dX2_countOn_83 ci_1 ?_
                  refine Go.goto 88 dX2_countOn_84 rfl ?_
                  exact J88 (1 : Int32) hf
          exact Go.sub [1, 2, 0] [(0, .ref a0), (1, .int l54_1), (2, .int (0 : Int32))] rfl (L60 n (0 : Int32) l54S hf)
    exact Go.sub [1, 0] [(0, .ref a0), (1, .int v53)] rfl (L54 n v53 x47S hf)
  clear eK47
  have L2 : ∀ (fu : Nat) (l2_1 : Int32) (l2S : aSt), F_X2_countOn_L2 n a0 K47 fu l2_1 l2S = some Sr → GoM G l 2 (TmR G none 97 Sr 0 0) mX2_countOn 2 [(0, .ref a0), (1, .int l2_1)] [] l2S := by
    intro fu
    induction fu with
    | zero => intro l2_1 l2S hf; rw [F_X2_countOn_L2] at hf; cases hf
    | succ fu ih =>
      intro l2_1 l2S hf
      rw [F_X2_countOn_L2] at hf
      refine Go.iload_n 1 3 rfl dX2_countOn_2 rfl ?_
      refine Go.aload_n 0 4 rfl dX2_countOn_3 rfl ?_
      refine Go.getI 7 rfl dX2_countOn_4 fl_X2_28 rfl (isT_lt ha0) (isT_sh ha0) ?_
      refine Go.icmp_ge 47 10 rfl dX2_countOn_7 rfl (fun hc => ?_) (fun hc => ?_)
      · replace hf := f_if hf hc
        exact Go.sub [0] [(0, .ref a0)] rfl (J47 l2S hf)
      · replace hf := f_el hf hc
        refine Go.aload_n 0 11 rfl dX2_countOn_10 rfl ?_
        obtain ⟨k11, qk11, hk11, hf⟩ := f_rfd hf
        refine Go.getR 14 rfl dX2_countOn_11 fl_X2_18 rfl (isT_lt ha0) (isT_sh ha0) qk11 ?_
        refine Go.aload_n 0 15 rfl dX2_countOn_14 rfl ?_
        refine Go.getI 18 rfl dX2_countOn_15 fl_X2_21 rfl (isT_lt ha0) (isT_sh ha0) ?_
        refine Go.sipush (128 : Int32) 21 rfl dX2_countOn_18 cs_128 ?_
        refine Go.imul 22 rfl dX2_countOn_21 ?_
        refine Go.iload_n 1 23 rfl dX2_countOn_22 rfl ?_
        refine Go.iadd 24 rfl dX2_countOn_23 ?_
        refine Go.iload_n 1 25 rfl dX2_countOn_24 rfl ?_
        obtain ⟨r25, er25, hf⟩ := f_bnd hf
        refine Go.cS 28 [.int l2_1] [.int (((l2S.1 a0 3) * (128 : Int32)) + l2_1), .ref k11] (C_J6_bitCount_0f7a4 G l n l2S l2_1 r25  er25) rfl dX2_countOn_25 cx_X2_73 (by decide) (by decide) rfl (Nat.le_of_ble_eq_true rfl) ?_
        refine Go.aload_n 0 29 rfl dX2_countOn_28 rfl ?_
        refine Go.getI 32 rfl dX2_countOn_29 fl_X2_31 rfl (isT_lt ha0) (isT_sh ha0) ?_
        obtain ⟨K40, eK40, hf⟩ := f_jn hf
        have J40 : ∀ (j40s2 : Int32), K40 j40s2 = some Sr → GoM G l 2 (TmR G none 97 Sr 0 0) mX2_countOn 40 [(0, .ref a0), (1, .int l2_1)] [.int j40s2, .int (((l2S.1 a0 3) * (128 : Int32)) + l2_1), .ref k11] l2S := by
          intro j40s2 hf
          rw [eK40] at hf
          obtain ⟨g40, hf⟩ := f_grd hf
          obtain ⟨S40, eS40, hf⟩ := f_nm hf
          refine Go.iast 41 rfl dX2_countOn_40 (isT_lt hk11) (isT_sh hk11) g40 (Go.stt S40 eS40 ?_)
          refine Go.inc 1 44 (1 : Int32) [(1, .int (l2_1 + (1 : Int32))), (0, .ref a0)] rfl dX2_countOn_41 rfl ci_1 (by decide) rfl ?_
          refine Go.goto 2 dX2_countOn_44 rfl ?_
          exact Go.sub [1, 0] [(0, .ref a0), (1, .int (l2_1 + (1 : Int32)))] rfl (ih (l2_1 + (1 : Int32)) S40 hf)
        clear eK40
        refine Go.icmp_ne 39 35 rfl dX2_countOn_32 rfl (fun hc => ?_) (fun hc => ?_)
        · replace hf := f_el hf hc
          refine Go.iconst (0 : Int32) 40 rfl dX2_countOn_39 ci_0 ?_
          exact J40 (0 : Int32) hf
        · replace hf := f_if hf hc
          refine Go.iconst (1 : Int32) 36 rfl dX2_countOn_35 ci_1 ?_
          refine Go.goto 40 dX2_countOn_36 rfl ?_
          exact J40 (1 : Int32) hf
  exact Go.sub [1, 0] [(0, .ref a0), (1, .int (0 : Int32))] rfl (L2 n (0 : Int32) S hf)
theorem dX2_mostPairs_0 : decode cX2_mostPairs 0 = .ok (.iconst 0, 1) := by decide +kernel
theorem dX2_mostPairs_1 : decode cX2_mostPairs 1 = .ok (.istore_n 1, 1) := by decide +kernel
theorem dX2_mostPairs_2 : decode cX2_mostPairs 2 = .ok (.iconst 0, 1) := by decide +kernel
theorem dX2_mostPairs_3 : decode cX2_mostPairs 3 = .ok (.istore_n 2, 1) := by decide +kernel
theorem dX2_mostPairs_4 : decode cX2_mostPairs 4 = .ok (.iload_n 2, 1) := by decide +kernel
theorem dX2_mostPairs_5 : decode cX2_mostPairs 5 = .ok (.aload_n 0, 1) := by decide +kernel
theorem dX2_mostPairs_6 : decode cX2_mostPairs 6 = .ok (.getfield 28, 3) := by decide +kernel
theorem dX2_mostPairs_9 : decode cX2_mostPairs 9 = .ok (.if_icmp .ge 36, 3) := by decide +kernel
theorem dX2_mostPairs_12 : decode cX2_mostPairs 12 = .ok (.aload_n 0, 1) := by decide +kernel
theorem dX2_mostPairs_13 : decode cX2_mostPairs 13 = .ok (.getfield 15, 3) := by decide +kernel
theorem dX2_mostPairs_16 : decode cX2_mostPairs 16 = .ok (.aload_n 0, 1) := by decide +kernel
theorem dX2_mostPairs_17 : decode cX2_mostPairs 17 = .ok (.getfield 21, 3) := by decide +kernel
theorem dX2_mostPairs_20 : decode cX2_mostPairs 20 = .ok (.sipush 128, 3) := by decide +kernel
theorem dX2_mostPairs_23 : decode cX2_mostPairs 23 = .ok (.imul, 1) := by decide +kernel
theorem dX2_mostPairs_24 : decode cX2_mostPairs 24 = .ok (.iload_n 2, 1) := by decide +kernel
theorem dX2_mostPairs_25 : decode cX2_mostPairs 25 = .ok (.iadd, 1) := by decide +kernel
theorem dX2_mostPairs_26 : decode cX2_mostPairs 26 = .ok (.iaload, 1) := by decide +kernel
theorem dX2_mostPairs_27 : decode cX2_mostPairs 27 = .ok (.ifCond .le 12, 3) := by decide +kernel
theorem dX2_mostPairs_30 : decode cX2_mostPairs 30 = .ok (.iload_n 1, 1) := by decide +kernel
theorem dX2_mostPairs_31 : decode cX2_mostPairs 31 = .ok (.iload_n 2, 1) := by decide +kernel
theorem dX2_mostPairs_32 : decode cX2_mostPairs 32 = .ok (.invokestatic 73, 3) := by decide +kernel
theorem dX2_mostPairs_35 : decode cX2_mostPairs 35 = .ok (.invokestatic 78, 3) := by decide +kernel
theorem dX2_mostPairs_38 : decode cX2_mostPairs 38 = .ok (.istore_n 1, 1) := by decide +kernel
theorem dX2_mostPairs_39 : decode cX2_mostPairs 39 = .ok (.iinc 2 1, 3) := by decide +kernel
theorem dX2_mostPairs_42 : decode cX2_mostPairs 42 = .ok (.goto (-38), 3) := by decide +kernel
theorem dX2_mostPairs_45 : decode cX2_mostPairs 45 = .ok (.iload_n 1, 1) := by decide +kernel
theorem dX2_mostPairs_46 : decode cX2_mostPairs 46 = .ok (.ireturn, 1) := by decide +kernel
def F_X2_mostPairs_L4 (n : Nat) (S : aSt) (a0 : Nat) (K45 : Int32 → Option Int32) : Nat → Int32 → Int32 → Option Int32
  | 0, _, _ => none
  | fu + 1, l4_1, l4_2 =>
    if (S.1 a0 5) ≤ l4_2 then (K45 l4_1) else
    rfd (S.2.2 a0 1) 7 fun k13 =>
    grd (inb (((S.1 a0 3) * (128 : Int32)) + l4_2) (SH k13).2) <|
    jn (fun (j39_1 : Int32) => (F_X2_mostPairs_L4 n S a0 K45 fu j39_1 (l4_2 + (1 : Int32)) : Option Int32)) fun K39 =>
    if (S.1 k13 (((S.1 a0 3) * (128 : Int32)) + l4_2).toNatClampNeg) ≤ 0 then (K39 l4_1) else
    (F_J6_bitCount_0f7a4 n S l4_2).bind fun r32 =>
    nm (if l4_1 < r32 then r32 else l4_1) fun v38 =>
    K39 v38
def F_X2_mostPairs (n : Nat) (S : aSt) (a0 : Nat) : Option Int32 :=
jn (fun (x45_1 : Int32) => (some x45_1 : Option Int32)) fun K45 =>
F_X2_mostPairs_L4 n S a0 K45 n (0 : Int32) (0 : Int32)
set_option maxHeartbeats 4000000 in
set_option maxRecDepth 100000 in
theorem C_X2_mostPairs (G : aG) (l : Launch) (n : Nat) (S : aSt) (a0 : Nat) (r : Int32) (ha0 : isT a0 1 = true) (hf : F_X2_mostPairs n S a0 = some r) : Ctr G l yX2_mostPairs mX2_mostPairs (rmM 2) 97 97 S [.ref a0] (some (.int r)) S := by
  refine Ctr.of (by decide) rfl rfl (Nat.le_of_ble_eq_true rfl) [(0, .ref a0)] rfl ?_
  unfold F_X2_mostPairs at hf
  refine Go.iconst (0 : Int32) 1 rfl dX2_mostPairs_0 ci_0 ?_
  refine Go.istore_n 2 [(1, .int (0 : Int32)), (0, .ref a0)] rfl dX2_mostPairs_1 (by decide) rfl ?_
  refine Go.iconst (0 : Int32) 3 rfl dX2_mostPairs_2 ci_0 ?_
  refine Go.istore_n 4 [(2, .int (0 : Int32)), (1, .int (0 : Int32)), (0, .ref a0)] rfl dX2_mostPairs_3 (by decide) rfl ?_
  obtain ⟨K45, eK45, hf⟩ := f_jn hf
  have J45 : ∀ (x45_1 : Int32), K45 x45_1 = some r → GoM G l 2 (TmR G (some (.int r)) 97 S 0 0) mX2_mostPairs 45 [(1, .int x45_1)] [] S := by
    intro x45_1 hf
    rw [eK45] at hf
    refine Go.iload_n 0 46 rfl dX2_mostPairs_45 rfl ?_
    exact Go.ir rfl dX2_mostPairs_46 hf
  clear eK45
  have L4 : ∀ (fu : Nat) (l4_1 : Int32) (l4_2 : Int32), F_X2_mostPairs_L4 n S a0 K45 fu l4_1 l4_2 = some r → GoM G l 2 (TmR G (some (.int r)) 97 S 0 0) mX2_mostPairs 4 [(0, .ref a0), (1, .int l4_1), (2, .int l4_2)] [] S := by
    intro fu
    induction fu with
    | zero => intro l4_1 l4_2 hf; rw [F_X2_mostPairs_L4] at hf; cases hf
    | succ fu ih =>
      intro l4_1 l4_2 hf
      rw [F_X2_mostPairs_L4] at hf
      refine Go.iload_n 2 5 rfl dX2_mostPairs_4 rfl ?_
      refine Go.aload_n 0 6 rfl dX2_mostPairs_5 rfl ?_
      refine Go.getI 9 rfl dX2_mostPairs_6 fl_X2_28 rfl (isT_lt ha0) (isT_sh ha0) ?_
      refine Go.icmp_ge 45 12 rfl dX2_mostPairs_9 rfl (fun hc => ?_) (fun hc => ?_)
      · replace hf := f_if hf hc
        exact Go.sub [1] [(1, .int l4_1)] rfl (J45 l4_1 hf)
      · replace hf := f_el hf hc
        refine Go.aload_n 0 13 rfl dX2_mostPairs_12 rfl ?_
        obtain ⟨k13, qk13, hk13, hf⟩ := f_rfd hf
        refine Go.getR 16 rfl dX2_mostPairs_13 fl_X2_15 rfl (isT_lt ha0) (isT_sh ha0) qk13 ?_
        refine Go.aload_n 0 17 rfl dX2_mostPairs_16 rfl ?_
        refine Go.getI 20 rfl dX2_mostPairs_17 fl_X2_21 rfl (isT_lt ha0) (isT_sh ha0) ?_
        refine Go.sipush (128 : Int32) 23 rfl dX2_mostPairs_20 cs_128 ?_
        refine Go.imul 24 rfl dX2_mostPairs_23 ?_
        refine Go.iload_n 2 25 rfl dX2_mostPairs_24 rfl ?_
        refine Go.iadd 26 rfl dX2_mostPairs_25 ?_
        obtain ⟨g26, hf⟩ := f_grd hf
        refine Go.iald 27 rfl dX2_mostPairs_26 (isT_lt hk13) (isT_sh hk13) g26 ?_
        obtain ⟨K39, eK39, hf⟩ := f_jn hf
        have J39 : ∀ (j39_1 : Int32), K39 j39_1 = some r → GoM G l 2 (TmR G (some (.int r)) 97 S 0 0) mX2_mostPairs 39 [(0, .ref a0), (1, .int j39_1), (2, .int l4_2)] [] S := by
          intro j39_1 hf
          rw [eK39] at hf
          refine Go.inc 2 42 (1 : Int32) [(2, .int (l4_2 + (1 : Int32))), (0, .ref a0), (1, .int j39_1)] rfl dX2_mostPairs_39 rfl ci_1 (by decide) rfl ?_
          refine Go.goto 4 dX2_mostPairs_42 rfl ?_
          exact Go.sub [1, 2, 0] [(0, .ref a0), (1, .int j39_1), (2, .int (l4_2 + (1 : Int32)))] rfl (ih j39_1 (l4_2 + (1 : Int32)) hf)
        clear eK39
        refine Go.if_le 39 30 rfl dX2_mostPairs_27 rfl (fun hc => ?_) (fun hc => ?_)
        · replace hf := f_if hf hc
          exact J39 l4_1 hf
        · replace hf := f_el hf hc
          refine Go.iload_n 1 31 rfl dX2_mostPairs_30 rfl ?_
          refine Go.iload_n 2 32 rfl dX2_mostPairs_31 rfl ?_
          obtain ⟨r32, er32, hf⟩ := f_bnd hf
          refine Go.cS 35 [.int l4_2] [.int l4_1] (C_J6_bitCount_0f7a4 G l n S l4_2 r32  er32) rfl dX2_mostPairs_32 cx_X2_73 (by decide) (by decide) rfl (Nat.le_of_ble_eq_true rfl) ?_
          refine Go.mmax 38 rfl dX2_mostPairs_35 (am_mem 572 (by decide +kernel) rfl) (am_mem 237 (by decide +kernel) rfl) (am_mem 59 (by decide +kernel) rfl) (am_mem 238 (by decide +kernel) rfl) (Nat.le_of_ble_eq_true rfl) ?_
          obtain ⟨v38, ev38, hf⟩ := f_nm hf
          refine Go.topi v38 ev38 ?_
          refine Go.istore_n 39 [(1, .int v38), (0, .ref a0), (2, .int l4_2)] rfl dX2_mostPairs_38 (by decide) rfl ?_
          exact Go.sub [1, 0, 2] [(0, .ref a0), (1, .int v38), (2, .int l4_2)] rfl (J39 v38 hf)
  exact Go.sub [2, 1, 0] [(0, .ref a0), (1, .int (0 : Int32)), (2, .int (0 : Int32))] rfl (L4 n (0 : Int32) (0 : Int32) hf)
theorem dX2_countIn_0 : decode cX2_countIn 0 = .ok (.aload_n 0, 1) := by decide +kernel
theorem dX2_countIn_1 : decode cX2_countIn 1 = .ok (.aload_n 1, 1) := by decide +kernel
theorem dX2_countIn_2 : decode cX2_countIn 2 = .ok (.invokevirtual 37, 3) := by decide +kernel
theorem dX2_countIn_5 : decode cX2_countIn 5 = .ok (.aload_n 0, 1) := by decide +kernel
theorem dX2_countIn_6 : decode cX2_countIn 6 = .ok (.aload_n 0, 1) := by decide +kernel
theorem dX2_countIn_7 : decode cX2_countIn 7 = .ok (.invokevirtual 41, 3) := by decide +kernel
theorem dX2_countIn_10 : decode cX2_countIn 10 = .ok (.putfield 31, 3) := by decide +kernel
theorem dX2_countIn_13 : decode cX2_countIn 13 = .ok (.aload_n 0, 1) := by decide +kernel
theorem dX2_countIn_14 : decode cX2_countIn 14 = .ok (.invokevirtual 45, 3) := by decide +kernel
theorem dX2_countIn_17 : decode cX2_countIn 17 = .ok (.aload_n 0, 1) := by decide +kernel
theorem dX2_countIn_18 : decode cX2_countIn 18 = .ok (.aload_n 0, 1) := by decide +kernel
theorem dX2_countIn_19 : decode cX2_countIn 19 = .ok (.getfield 18, 3) := by decide +kernel
theorem dX2_countIn_22 : decode cX2_countIn 22 = .ok (.iconst 0, 1) := by decide +kernel
theorem dX2_countIn_23 : decode cX2_countIn 23 = .ok (.iaload, 1) := by decide +kernel
theorem dX2_countIn_24 : decode cX2_countIn 24 = .ok (.putfield 34, 3) := by decide +kernel
theorem dX2_countIn_27 : decode cX2_countIn 27 = .ok (.return_, 1) := by decide +kernel
def F_X2_countIn (n : Nat) (S : aSt) (a0 : Nat) (a1 : Nat) : Option aSt :=
(F_X2_countAhead n S a0 a1).bind fun S2 =>
(F_X2_mostPairs n S2 a0).bind fun r7 =>
nm (stI S2 a0 6 r7) fun S10 =>
(F_X2_countOn n S10 a0).bind fun S14 =>
rfd (S14.2.2 a0 2) 7 fun k19 =>
grd (inb (0 : Int32) (SH k19).2) <|
nm (stI S14 a0 7 (S14.1 k19 (0 : Int32).toNatClampNeg)) fun S24 =>
some S24
set_option maxHeartbeats 4000000 in
set_option maxRecDepth 100000 in
theorem C_X2_countIn (G : aG) (l : Launch) (n : Nat) (S : aSt) (a0 : Nat) (a1 : Nat) (Sr : aSt) (ha0 : isT a0 1 = true) (ha1 : isT a1 0 = true) (hf : F_X2_countIn n S a0 a1 = some Sr) : Ctr G l yX2_countIn mX2_countIn (rmM 6) 97 97 S [.ref a0, .ref a1] none Sr := by
  refine Ctr.of (by decide) rfl rfl (Nat.le_of_ble_eq_true rfl) [(0, .ref a0), (1, .ref a1)] rfl ?_
  unfold F_X2_countIn at hf
  refine Go.aload_n 0 1 rfl dX2_countIn_0 rfl ?_
  refine Go.aload_n 1 2 rfl dX2_countIn_1 rfl ?_
  obtain ⟨S2, eS2, hf⟩ := f_bnd hf
  refine Go.cVv 5 [.ref a1] [] (C_X2_countAhead G l n S a0 a1 S2 ha0 ha1 eS2) rfl dX2_countIn_2 cv_X2_37 ha0 (by decide) (by decide) rfl (Nat.le_of_ble_eq_true rfl) ?_
  refine Go.aload_n 0 6 rfl dX2_countIn_5 rfl ?_
  refine Go.aload_n 0 7 rfl dX2_countIn_6 rfl ?_
  obtain ⟨r7, er7, hf⟩ := f_bnd hf
  refine Go.cV 10 [] [.ref a0] (C_X2_mostPairs G l n S2 a0 r7 ha0 er7) rfl dX2_countIn_7 cv_X2_41 ha0 (by decide) (by decide) rfl (Nat.le_of_ble_eq_true rfl) ?_
  obtain ⟨S10, eS10, hf⟩ := f_nm hf
  refine Go.putI 13 rfl dX2_countIn_10 fp_X2_31 rfl (isT_lt ha0) (isT_sh ha0) (fun h => by cases h) (Go.stt S10 eS10 ?_)
  refine Go.aload_n 0 14 rfl dX2_countIn_13 rfl ?_
  obtain ⟨S14, eS14, hf⟩ := f_bnd hf
  refine Go.cVv 17 [] [] (C_X2_countOn G l n S10 a0 S14 ha0 eS14) rfl dX2_countIn_14 cv_X2_45 ha0 (by decide) (by decide) rfl (Nat.le_of_ble_eq_true rfl) ?_
  refine Go.aload_n 0 18 rfl dX2_countIn_17 rfl ?_
  refine Go.aload_n 0 19 rfl dX2_countIn_18 rfl ?_
  obtain ⟨k19, qk19, hk19, hf⟩ := f_rfd hf
  refine Go.getR 22 rfl dX2_countIn_19 fl_X2_18 rfl (isT_lt ha0) (isT_sh ha0) qk19 ?_
  refine Go.iconst (0 : Int32) 23 rfl dX2_countIn_22 ci_0 ?_
  obtain ⟨g23, hf⟩ := f_grd hf
  refine Go.iald 24 rfl dX2_countIn_23 (isT_lt hk19) (isT_sh hk19) g23 ?_
  obtain ⟨S24, eS24, hf⟩ := f_nm hf
  refine Go.putI 27 rfl dX2_countIn_24 fp_X2_34 rfl (isT_lt ha0) (isT_sh ha0) (fun h => by cases h) (Go.stt S24 eS24 ?_)
  exact Go.vr rfl dX2_countIn_27 hf
theorem dX2_countWith_0 : decode cX2_countWith 0 = .ok (.aload_n 0, 1) := by decide +kernel
theorem dX2_countWith_1 : decode cX2_countWith 1 = .ok (.getfield 9, 3) := by decide +kernel
theorem dX2_countWith_4 : decode cX2_countWith 4 = .ok (.iload_n 1, 1) := by decide +kernel
theorem dX2_countWith_5 : decode cX2_countWith 5 = .ok (.iaload, 1) := by decide +kernel
theorem dX2_countWith_6 : decode cX2_countWith 6 = .ok (.iconst 1, 1) := by decide +kernel
theorem dX2_countWith_7 : decode cX2_countWith 7 = .ok (.iload_n 2, 1) := by decide +kernel
theorem dX2_countWith_8 : decode cX2_countWith 8 = .ok (.ishl, 1) := by decide +kernel
theorem dX2_countWith_9 : decode cX2_countWith 9 = .ok (.iand, 1) := by decide +kernel
theorem dX2_countWith_10 : decode cX2_countWith 10 = .ok (.ifCond .ne 5, 3) := by decide +kernel
theorem dX2_countWith_13 : decode cX2_countWith 13 = .ok (.iconst 0, 1) := by decide +kernel
theorem dX2_countWith_14 : decode cX2_countWith 14 = .ok (.ireturn, 1) := by decide +kernel
theorem dX2_countWith_15 : decode cX2_countWith 15 = .ok (.iconst 0, 1) := by decide +kernel
theorem dX2_countWith_16 : decode cX2_countWith 16 = .ok (.istore_n 3, 1) := by decide +kernel
theorem dX2_countWith_17 : decode cX2_countWith 17 = .ok (.iconst 0, 1) := by decide +kernel
theorem dX2_countWith_18 : decode cX2_countWith 18 = .ok (.istore 4, 2) := by decide +kernel
theorem dX2_countWith_20 : decode cX2_countWith 20 = .ok (.iload 4, 2) := by decide +kernel
theorem dX2_countWith_22 : decode cX2_countWith 22 = .ok (.aload_n 0, 1) := by decide +kernel
theorem dX2_countWith_23 : decode cX2_countWith 23 = .ok (.getfield 28, 3) := by decide +kernel
theorem dX2_countWith_26 : decode cX2_countWith 26 = .ok (.if_icmp .ge 63, 3) := by decide +kernel
theorem dX2_countWith_29 : decode cX2_countWith 29 = .ok (.aload_n 0, 1) := by decide +kernel
theorem dX2_countWith_30 : decode cX2_countWith 30 = .ok (.getfield 15, 3) := by decide +kernel
theorem dX2_countWith_33 : decode cX2_countWith 33 = .ok (.iload_n 1, 1) := by decide +kernel
theorem dX2_countWith_34 : decode cX2_countWith 34 = .ok (.sipush 128, 3) := by decide +kernel
theorem dX2_countWith_37 : decode cX2_countWith 37 = .ok (.imul, 1) := by decide +kernel
theorem dX2_countWith_38 : decode cX2_countWith 38 = .ok (.iload 4, 2) := by decide +kernel
theorem dX2_countWith_40 : decode cX2_countWith 40 = .ok (.iadd, 1) := by decide +kernel
theorem dX2_countWith_41 : decode cX2_countWith 41 = .ok (.iaload, 1) := by decide +kernel
theorem dX2_countWith_42 : decode cX2_countWith 42 = .ok (.istore 5, 2) := by decide +kernel
theorem dX2_countWith_44 : decode cX2_countWith 44 = .ok (.iload 5, 2) := by decide +kernel
theorem dX2_countWith_46 : decode cX2_countWith 46 = .ok (.ifCond .le 37, 3) := by decide +kernel
theorem dX2_countWith_49 : decode cX2_countWith 49 = .ok (.iload 4, 2) := by decide +kernel
theorem dX2_countWith_51 : decode cX2_countWith 51 = .ok (.iconst 1, 1) := by decide +kernel
theorem dX2_countWith_52 : decode cX2_countWith 52 = .ok (.iload_n 2, 1) := by decide +kernel
theorem dX2_countWith_53 : decode cX2_countWith 53 = .ok (.ishl, 1) := by decide +kernel
theorem dX2_countWith_54 : decode cX2_countWith 54 = .ok (.iand, 1) := by decide +kernel
theorem dX2_countWith_55 : decode cX2_countWith 55 = .ok (.ifCond .ne 28, 3) := by decide +kernel
theorem dX2_countWith_58 : decode cX2_countWith 58 = .ok (.iload_n 3, 1) := by decide +kernel
theorem dX2_countWith_59 : decode cX2_countWith 59 = .ok (.iload 5, 2) := by decide +kernel
theorem dX2_countWith_61 : decode cX2_countWith 61 = .ok (.aload_n 0, 1) := by decide +kernel
theorem dX2_countWith_62 : decode cX2_countWith 62 = .ok (.getfield 18, 3) := by decide +kernel
theorem dX2_countWith_65 : decode cX2_countWith 65 = .ok (.iload_n 1, 1) := by decide +kernel
theorem dX2_countWith_66 : decode cX2_countWith 66 = .ok (.iconst 1, 1) := by decide +kernel
theorem dX2_countWith_67 : decode cX2_countWith 67 = .ok (.iadd, 1) := by decide +kernel
theorem dX2_countWith_68 : decode cX2_countWith 68 = .ok (.sipush 128, 3) := by decide +kernel
theorem dX2_countWith_71 : decode cX2_countWith 71 = .ok (.imul, 1) := by decide +kernel
theorem dX2_countWith_72 : decode cX2_countWith 72 = .ok (.iload 4, 2) := by decide +kernel
theorem dX2_countWith_74 : decode cX2_countWith 74 = .ok (.iconst 1, 1) := by decide +kernel
theorem dX2_countWith_75 : decode cX2_countWith 75 = .ok (.iload_n 2, 1) := by decide +kernel
theorem dX2_countWith_76 : decode cX2_countWith 76 = .ok (.ishl, 1) := by decide +kernel
theorem dX2_countWith_77 : decode cX2_countWith 77 = .ok (.ior, 1) := by decide +kernel
theorem dX2_countWith_78 : decode cX2_countWith 78 = .ok (.iadd, 1) := by decide +kernel
theorem dX2_countWith_79 : decode cX2_countWith 79 = .ok (.iaload, 1) := by decide +kernel
theorem dX2_countWith_80 : decode cX2_countWith 80 = .ok (.imul, 1) := by decide +kernel
theorem dX2_countWith_81 : decode cX2_countWith 81 = .ok (.iadd, 1) := by decide +kernel
theorem dX2_countWith_82 : decode cX2_countWith 82 = .ok (.istore_n 3, 1) := by decide +kernel
theorem dX2_countWith_83 : decode cX2_countWith 83 = .ok (.iinc 4 1, 3) := by decide +kernel
theorem dX2_countWith_86 : decode cX2_countWith 86 = .ok (.goto (-66), 3) := by decide +kernel
theorem dX2_countWith_89 : decode cX2_countWith 89 = .ok (.iload_n 3, 1) := by decide +kernel
theorem dX2_countWith_90 : decode cX2_countWith 90 = .ok (.ireturn, 1) := by decide +kernel
def F_X2_countWith_L20 (S : aSt) (a0 : Nat) (a1 : Int32) (a2 : Int32) (K89 : Int32 → Option Int32) : Nat → Int32 → Int32 → Option Int32
  | 0, _, _ => none
  | fu + 1, l20_3, l20_4 =>
    if (S.1 a0 5) ≤ l20_4 then (K89 l20_3) else
    rfd (S.2.2 a0 1) 7 fun k30 =>
    grd (inb ((a1 * (128 : Int32)) + l20_4) (SH k30).2) <|
    nm (S.1 k30 ((a1 * (128 : Int32)) + l20_4).toNatClampNeg) fun v42 =>
    jn (fun (j83_3 : Int32) => (F_X2_countWith_L20 S a0 a1 a2 K89 fu j83_3 (l20_4 + (1 : Int32)) : Option Int32)) fun K83 =>
    if v42 ≤ 0 then (K83 l20_3) else
    if (l20_4 &&& ((1 : Int32) <<< (a2 &&& 31))) = 0 then (rfd (S.2.2 a0 2) 7 fun k62 =>
    grd (inb (((a1 + (1 : Int32)) * (128 : Int32)) + (l20_4 ||| ((1 : Int32) <<< (a2 &&& 31)))) (SH k62).2) <|
    nm (l20_3 + (v42 * (S.1 k62 (((a1 + (1 : Int32)) * (128 : Int32)) + (l20_4 ||| ((1 : Int32) <<< (a2 &&& 31)))).toNatClampNeg))) fun v82 =>
    K83 v82) else
    K83 l20_3
def F_X2_countWith (n : Nat) (S : aSt) (a0 : Nat) (a1 : Int32) (a2 : Int32) : Option Int32 :=
rfd (S.2.2 a0 0) 7 fun k1 =>
grd (inb a1 (SH k1).2) <|
if ((S.1 k1 a1.toNatClampNeg) &&& ((1 : Int32) <<< (a2 &&& 31))) = 0 then (some (0 : Int32)) else
jn (fun (x89_3 : Int32) => (some x89_3 : Option Int32)) fun K89 =>
F_X2_countWith_L20 S a0 a1 a2 K89 n (0 : Int32) (0 : Int32)
set_option maxHeartbeats 4000000 in
set_option maxRecDepth 100000 in
theorem C_X2_countWith (G : aG) (l : Launch) (n : Nat) (S : aSt) (a0 : Nat) (a1 : Int32) (a2 : Int32) (r : Int32) (ha0 : isT a0 1 = true) (hf : F_X2_countWith n S a0 a1 a2 = some r) : Ctr G l yX2_countWith mX2_countWith (rmM 1) 97 97 S [.ref a0, .int a1, .int a2] (some (.int r)) S := by
  refine Ctr.of (by decide) rfl rfl (Nat.le_of_ble_eq_true rfl) [(0, .ref a0), (1, .int a1), (2, .int a2)] rfl ?_
  unfold F_X2_countWith at hf
  refine Go.aload_n 0 1 rfl dX2_countWith_0 rfl ?_
  obtain ⟨k1, qk1, hk1, hf⟩ := f_rfd hf
  refine Go.getR 4 rfl dX2_countWith_1 fl_X2_9 rfl (isT_lt ha0) (isT_sh ha0) qk1 ?_
  refine Go.iload_n 1 5 rfl dX2_countWith_4 rfl ?_
  obtain ⟨g5, hf⟩ := f_grd hf
  refine Go.iald 6 rfl dX2_countWith_5 (isT_lt hk1) (isT_sh hk1) g5 ?_
  refine Go.iconst (1 : Int32) 7 rfl dX2_countWith_6 ci_1 ?_
  refine Go.iload_n 2 8 rfl dX2_countWith_7 rfl ?_
  refine Go.ishl 9 rfl dX2_countWith_8 ?_
  refine Go.iand 10 rfl dX2_countWith_9 ?_
  refine Go.if_ne 15 13 rfl dX2_countWith_10 rfl (fun hc => ?_) (fun hc => ?_)
  · replace hf := f_el hf hc
    refine Go.iconst (0 : Int32) 16 rfl dX2_countWith_15 ci_0 ?_
    refine Go.istore_n 17 [(3, .int (0 : Int32)), (0, .ref a0), (1, .int a1), (2, .int a2)] rfl dX2_countWith_16 (by decide) rfl ?_
    refine Go.iconst (0 : Int32) 18 rfl dX2_countWith_17 ci_0 ?_
    refine Go.istore 20 [(4, .int (0 : Int32)), (3, .int (0 : Int32)), (0, .ref a0), (1, .int a1), (2, .int a2)] rfl dX2_countWith_18 (by decide) rfl ?_
    obtain ⟨K89, eK89, hf⟩ := f_jn hf
    have J89 : ∀ (x89_3 : Int32), K89 x89_3 = some r → GoM G l 1 (TmR G (some (.int r)) 97 S 0 0) mX2_countWith 89 [(3, .int x89_3)] [] S := by
      intro x89_3 hf
      rw [eK89] at hf
      refine Go.iload_n 0 90 rfl dX2_countWith_89 rfl ?_
      exact Go.ir rfl dX2_countWith_90 hf
    clear eK89
    have L20 : ∀ (fu : Nat) (l20_3 : Int32) (l20_4 : Int32), F_X2_countWith_L20 S a0 a1 a2 K89 fu l20_3 l20_4 = some r → GoM G l 1 (TmR G (some (.int r)) 97 S 0 0) mX2_countWith 20 [(0, .ref a0), (1, .int a1), (2, .int a2), (3, .int l20_3), (4, .int l20_4)] [] S := by
      intro fu
      induction fu with
      | zero => intro l20_3 l20_4 hf; rw [F_X2_countWith_L20] at hf; cases hf
      | succ fu ih =>
        intro l20_3 l20_4 hf
        rw [F_X2_countWith_L20] at hf
        refine Go.iload 4 22 rfl dX2_countWith_20 rfl ?_
        refine Go.aload_n 0 23 rfl dX2_countWith_22 rfl ?_
        refine Go.getI 26 rfl dX2_countWith_23 fl_X2_28 rfl (isT_lt ha0) (isT_sh ha0) ?_
        refine Go.icmp_ge 89 29 rfl dX2_countWith_26 rfl (fun hc => ?_) (fun hc => ?_)
        · replace hf := f_if hf hc
          exact Go.sub [3] [(3, .int l20_3)] rfl (J89 l20_3 hf)
        · replace hf := f_el hf hc
          refine Go.aload_n 0 30 rfl dX2_countWith_29 rfl ?_
          obtain ⟨k30, qk30, hk30, hf⟩ := f_rfd hf
          refine Go.getR 33 rfl dX2_countWith_30 fl_X2_15 rfl (isT_lt ha0) (isT_sh ha0) qk30 ?_
          refine Go.iload_n 1 34 rfl dX2_countWith_33 rfl ?_
          refine Go.sipush (128 : Int32) 37 rfl dX2_countWith_34 cs_128 ?_
          refine Go.imul 38 rfl dX2_countWith_37 ?_
          refine Go.iload 4 40 rfl dX2_countWith_38 rfl ?_
          refine Go.iadd 41 rfl dX2_countWith_40 ?_
          obtain ⟨g41, hf⟩ := f_grd hf
          refine Go.iald 42 rfl dX2_countWith_41 (isT_lt hk30) (isT_sh hk30) g41 ?_
          obtain ⟨v42, ev42, hf⟩ := f_nm hf
          refine Go.topi v42 ev42 ?_
          refine Go.istore 44 [(5, .int v42), (0, .ref a0), (1, .int a1), (2, .int a2), (3, .int l20_3), (4, .int l20_4)] rfl dX2_countWith_42 (by decide) rfl ?_
          refine Go.iload 0 46 rfl dX2_countWith_44 rfl ?_
          obtain ⟨K83, eK83, hf⟩ := f_jn hf
          have J83 : ∀ (j83_3 : Int32), K83 j83_3 = some r → GoM G l 1 (TmR G (some (.int r)) 97 S 0 0) mX2_countWith 83 [(0, .ref a0), (1, .int a1), (2, .int a2), (3, .int j83_3), (4, .int l20_4)] [] S := by
            intro j83_3 hf
            rw [eK83] at hf
            refine Go.inc 4 86 (1 : Int32) [(4, .int (l20_4 + (1 : Int32))), (0, .ref a0), (1, .int a1), (2, .int a2), (3, .int j83_3)] rfl dX2_countWith_83 rfl ci_1 (by decide) rfl ?_
            refine Go.goto 20 dX2_countWith_86 rfl ?_
            exact Go.sub [1, 2, 3, 4, 0] [(0, .ref a0), (1, .int a1), (2, .int a2), (3, .int j83_3), (4, .int (l20_4 + (1 : Int32)))] rfl (ih j83_3 (l20_4 + (1 : Int32)) hf)
          clear eK83
          refine Go.if_le 83 49 rfl dX2_countWith_46 rfl (fun hc => ?_) (fun hc => ?_)
          · replace hf := f_if hf hc
            exact Go.sub [1, 2, 3, 4, 5] [(0, .ref a0), (1, .int a1), (2, .int a2), (3, .int l20_3), (4, .int l20_4)] rfl (J83 l20_3 hf)
          · replace hf := f_el hf hc
            refine Go.iload 5 51 rfl dX2_countWith_49 rfl ?_
            refine Go.iconst (1 : Int32) 52 rfl dX2_countWith_51 ci_1 ?_
            refine Go.iload_n 3 53 rfl dX2_countWith_52 rfl ?_
            refine Go.ishl 54 rfl dX2_countWith_53 ?_
            refine Go.iand 55 rfl dX2_countWith_54 ?_
            refine Go.if_ne 83 58 rfl dX2_countWith_55 rfl (fun hc => ?_) (fun hc => ?_)
            · replace hf := f_el hf hc
              exact Go.sub [1, 2, 3, 4, 5] [(0, .ref a0), (1, .int a1), (2, .int a2), (3, .int l20_3), (4, .int l20_4)] rfl (J83 l20_3 hf)
            · replace hf := f_if hf hc
              refine Go.iload_n 4 59 rfl dX2_countWith_58 rfl ?_
              refine Go.iload 0 61 rfl dX2_countWith_59 rfl ?_
              refine Go.aload_n 1 62 rfl dX2_countWith_61 rfl ?_
              obtain ⟨k62, qk62, hk62, hf⟩ := f_rfd hf
              refine Go.getR 65 rfl dX2_countWith_62 fl_X2_18 rfl (isT_lt ha0) (isT_sh ha0) qk62 ?_
              refine Go.iload_n 2 66 rfl dX2_countWith_65 rfl ?_
              refine Go.iconst (1 : Int32) 67 rfl dX2_countWith_66 ci_1 ?_
              refine Go.iadd 68 rfl dX2_countWith_67 ?_
              refine Go.sipush (128 : Int32) 71 rfl dX2_countWith_68 cs_128 ?_
              refine Go.imul 72 rfl dX2_countWith_71 ?_
              refine Go.iload 5 74 rfl dX2_countWith_72 rfl ?_
              refine Go.iconst (1 : Int32) 75 rfl dX2_countWith_74 ci_1 ?_
              refine Go.iload_n 3 76 rfl dX2_countWith_75 rfl ?_
              refine Go.ishl 77 rfl dX2_countWith_76 ?_
              refine Go.ior 78 rfl dX2_countWith_77 ?_
              refine Go.iadd 79 rfl dX2_countWith_78 ?_
              obtain ⟨g79, hf⟩ := f_grd hf
              refine Go.iald 80 rfl dX2_countWith_79 (isT_lt hk62) (isT_sh hk62) g79 ?_
              refine Go.imul 81 rfl dX2_countWith_80 ?_
              refine Go.iadd 82 rfl dX2_countWith_81 ?_
              obtain ⟨v82, ev82, hf⟩ := f_nm hf
              refine Go.topi v82 ev82 ?_
              refine Go.istore_n 83 [(3, .int v82), (5, .int v42), (0, .ref a0), (1, .int a1), (2, .int a2), (4, .int l20_4)] rfl dX2_countWith_82 (by decide) rfl ?_
              exact Go.sub [2, 3, 4, 0, 5] [(0, .ref a0), (1, .int a1), (2, .int a2), (3, .int v82), (4, .int l20_4)] rfl (J83 v82 hf)
    exact Go.sub [2, 3, 4, 1, 0] [(0, .ref a0), (1, .int a1), (2, .int a2), (3, .int (0 : Int32)), (4, .int (0 : Int32))] rfl (L20 n (0 : Int32) (0 : Int32) hf)
  · replace hf := f_if hf hc
    refine Go.iconst (0 : Int32) 14 rfl dX2_countWith_13 ci_0 ?_
    exact Go.ir rfl dX2_countWith_14 hf
theorem dX2_sureCard_0 : decode cX2_sureCard 0 = .ok (.iconst 0, 1) := by decide +kernel
theorem dX2_sureCard_1 : decode cX2_sureCard 1 = .ok (.istore_n 2, 1) := by decide +kernel
theorem dX2_sureCard_2 : decode cX2_sureCard 2 = .ok (.iload_n 2, 1) := by decide +kernel
theorem dX2_sureCard_3 : decode cX2_sureCard 3 = .ok (.aload_n 0, 1) := by decide +kernel
theorem dX2_sureCard_4 : decode cX2_sureCard 4 = .ok (.getfield 25, 3) := by decide +kernel
theorem dX2_sureCard_7 : decode cX2_sureCard 7 = .ok (.if_icmp .ge 24, 3) := by decide +kernel
theorem dX2_sureCard_10 : decode cX2_sureCard 10 = .ok (.aload_n 0, 1) := by decide +kernel
theorem dX2_sureCard_11 : decode cX2_sureCard 11 = .ok (.iload_n 1, 1) := by decide +kernel
theorem dX2_sureCard_12 : decode cX2_sureCard 12 = .ok (.iload_n 2, 1) := by decide +kernel
theorem dX2_sureCard_13 : decode cX2_sureCard 13 = .ok (.invokevirtual 87, 3) := by decide +kernel
theorem dX2_sureCard_16 : decode cX2_sureCard 16 = .ok (.aload_n 0, 1) := by decide +kernel
theorem dX2_sureCard_17 : decode cX2_sureCard 17 = .ok (.getfield 34, 3) := by decide +kernel
theorem dX2_sureCard_20 : decode cX2_sureCard 20 = .ok (.if_icmp .ne 5, 3) := by decide +kernel
theorem dX2_sureCard_23 : decode cX2_sureCard 23 = .ok (.iload_n 2, 1) := by decide +kernel
theorem dX2_sureCard_24 : decode cX2_sureCard 24 = .ok (.ireturn, 1) := by decide +kernel
theorem dX2_sureCard_25 : decode cX2_sureCard 25 = .ok (.iinc 2 1, 3) := by decide +kernel
theorem dX2_sureCard_28 : decode cX2_sureCard 28 = .ok (.goto (-26), 3) := by decide +kernel
theorem dX2_sureCard_31 : decode cX2_sureCard 31 = .ok (.bipush (-9), 2) := by decide +kernel
theorem dX2_sureCard_33 : decode cX2_sureCard 33 = .ok (.ireturn, 1) := by decide +kernel
def F_X2_sureCard_L2 (n : Nat) (S : aSt) (a0 : Nat) (a1 : Int32) (K31 : Option Int32) : Nat → Int32 → Option Int32
  | 0, _ => none
  | fu + 1, l2_2 =>
    if (S.1 a0 4) ≤ l2_2 then (K31) else
    (F_X2_countWith n S a0 a1 l2_2).bind fun r13 =>
    if r13 = (S.1 a0 7) then (some l2_2) else
    F_X2_sureCard_L2 n S a0 a1 K31 fu (l2_2 + (1 : Int32))
def F_X2_sureCard (n : Nat) (S : aSt) (a0 : Nat) (a1 : Int32) : Option Int32 :=
jn ((some (-9 : Int32) : Option Int32)) fun K31 =>
F_X2_sureCard_L2 n S a0 a1 K31 n (0 : Int32)
set_option maxHeartbeats 4000000 in
set_option maxRecDepth 100000 in
theorem C_X2_sureCard (G : aG) (l : Launch) (n : Nat) (S : aSt) (a0 : Nat) (a1 : Int32) (r : Int32) (ha0 : isT a0 1 = true) (hf : F_X2_sureCard n S a0 a1 = some r) : Ctr G l yX2_sureCard mX2_sureCard (rmM 2) 97 97 S [.ref a0, .int a1] (some (.int r)) S := by
  refine Ctr.of (by decide) rfl rfl (Nat.le_of_ble_eq_true rfl) [(0, .ref a0), (1, .int a1)] rfl ?_
  unfold F_X2_sureCard at hf
  refine Go.iconst (0 : Int32) 1 rfl dX2_sureCard_0 ci_0 ?_
  refine Go.istore_n 2 [(2, .int (0 : Int32)), (0, .ref a0), (1, .int a1)] rfl dX2_sureCard_1 (by decide) rfl ?_
  obtain ⟨K31, eK31, hf⟩ := f_jn hf
  have J31 : K31 = some r → GoM G l 2 (TmR G (some (.int r)) 97 S 0 0) mX2_sureCard 31 [] [] S := by
    intro hf
    rw [eK31] at hf
    refine Go.bipush (-9 : Int32) 33 rfl dX2_sureCard_31 cb_m9 ?_
    exact Go.ir rfl dX2_sureCard_33 hf
  clear eK31
  have L2 : ∀ (fu : Nat) (l2_2 : Int32), F_X2_sureCard_L2 n S a0 a1 K31 fu l2_2 = some r → GoM G l 2 (TmR G (some (.int r)) 97 S 0 0) mX2_sureCard 2 [(0, .ref a0), (1, .int a1), (2, .int l2_2)] [] S := by
    intro fu
    induction fu with
    | zero => intro l2_2 hf; rw [F_X2_sureCard_L2] at hf; cases hf
    | succ fu ih =>
      intro l2_2 hf
      rw [F_X2_sureCard_L2] at hf
      refine Go.iload_n 2 3 rfl dX2_sureCard_2 rfl ?_
      refine Go.aload_n 0 4 rfl dX2_sureCard_3 rfl ?_
      refine Go.getI 7 rfl dX2_sureCard_4 fl_X2_25 rfl (isT_lt ha0) (isT_sh ha0) ?_
      refine Go.icmp_ge 31 10 rfl dX2_sureCard_7 rfl (fun hc => ?_) (fun hc => ?_)
      · replace hf := f_if hf hc
        exact Go.sub [] [] rfl (J31 hf)
      · replace hf := f_el hf hc
        refine Go.aload_n 0 11 rfl dX2_sureCard_10 rfl ?_
        refine Go.iload_n 1 12 rfl dX2_sureCard_11 rfl ?_
        refine Go.iload_n 2 13 rfl dX2_sureCard_12 rfl ?_
        obtain ⟨r13, er13, hf⟩ := f_bnd hf
        refine Go.cV 16 [.int a1, .int l2_2] [] (C_X2_countWith G l n S a0 a1 l2_2 r13 ha0 er13) rfl dX2_sureCard_13 cv_X2_87 ha0 (by decide) (by decide) rfl (Nat.le_of_ble_eq_true rfl) ?_
        refine Go.aload_n 0 17 rfl dX2_sureCard_16 rfl ?_
        refine Go.getI 20 rfl dX2_sureCard_17 fl_X2_34 rfl (isT_lt ha0) (isT_sh ha0) ?_
        refine Go.icmp_ne 25 23 rfl dX2_sureCard_20 rfl (fun hc => ?_) (fun hc => ?_)
        · replace hf := f_el hf hc
          refine Go.inc 2 28 (1 : Int32) [(2, .int (l2_2 + (1 : Int32))), (0, .ref a0), (1, .int a1)] rfl dX2_sureCard_25 rfl ci_1 (by decide) rfl ?_
          refine Go.goto 2 dX2_sureCard_28 rfl ?_
          exact Go.sub [1, 2, 0] [(0, .ref a0), (1, .int a1), (2, .int (l2_2 + (1 : Int32)))] rfl (ih (l2_2 + (1 : Int32)) hf)
        · replace hf := f_if hf hc
          refine Go.iload_n 2 24 rfl dX2_sureCard_23 rfl ?_
          exact Go.ir rfl dX2_sureCard_24 hf
  exact Go.sub [1, 2, 0] [(0, .ref a0), (1, .int a1), (2, .int (0 : Int32))] rfl (L2 n (0 : Int32) hf)
theorem dX2_firstFullest_0 : decode cX2_firstFullest 0 = .ok (.aload_n 0, 1) := by decide +kernel
theorem dX2_firstFullest_1 : decode cX2_firstFullest 1 = .ok (.getfield 9, 3) := by decide +kernel
theorem dX2_firstFullest_4 : decode cX2_firstFullest 4 = .ok (.iload_n 1, 1) := by decide +kernel
theorem dX2_firstFullest_5 : decode cX2_firstFullest 5 = .ok (.iaload, 1) := by decide +kernel
theorem dX2_firstFullest_6 : decode cX2_firstFullest 6 = .ok (.iload_n 2, 1) := by decide +kernel
theorem dX2_firstFullest_7 : decode cX2_firstFullest 7 = .ok (.iconst (-1), 1) := by decide +kernel
theorem dX2_firstFullest_8 : decode cX2_firstFullest 8 = .ok (.ixor, 1) := by decide +kernel
theorem dX2_firstFullest_9 : decode cX2_firstFullest 9 = .ok (.iand, 1) := by decide +kernel
theorem dX2_firstFullest_10 : decode cX2_firstFullest 10 = .ok (.istore_n 3, 1) := by decide +kernel
theorem dX2_firstFullest_11 : decode cX2_firstFullest 11 = .ok (.iconst 0, 1) := by decide +kernel
theorem dX2_firstFullest_12 : decode cX2_firstFullest 12 = .ok (.istore 4, 2) := by decide +kernel
theorem dX2_firstFullest_14 : decode cX2_firstFullest 14 = .ok (.iload 4, 2) := by decide +kernel
theorem dX2_firstFullest_16 : decode cX2_firstFullest 16 = .ok (.aload_n 0, 1) := by decide +kernel
theorem dX2_firstFullest_17 : decode cX2_firstFullest 17 = .ok (.getfield 25, 3) := by decide +kernel
theorem dX2_firstFullest_20 : decode cX2_firstFullest 20 = .ok (.if_icmp .ge 43, 3) := by decide +kernel
theorem dX2_firstFullest_23 : decode cX2_firstFullest 23 = .ok (.iload_n 3, 1) := by decide +kernel
theorem dX2_firstFullest_24 : decode cX2_firstFullest 24 = .ok (.iconst 1, 1) := by decide +kernel
theorem dX2_firstFullest_25 : decode cX2_firstFullest 25 = .ok (.iload 4, 2) := by decide +kernel
theorem dX2_firstFullest_27 : decode cX2_firstFullest 27 = .ok (.ishl, 1) := by decide +kernel
theorem dX2_firstFullest_28 : decode cX2_firstFullest 28 = .ok (.iand, 1) := by decide +kernel
theorem dX2_firstFullest_29 : decode cX2_firstFullest 29 = .ok (.ifCond .eq 28, 3) := by decide +kernel
theorem dX2_firstFullest_32 : decode cX2_firstFullest 32 = .ok (.aload_n 0, 1) := by decide +kernel
theorem dX2_firstFullest_33 : decode cX2_firstFullest 33 = .ok (.getfield 18, 3) := by decide +kernel
theorem dX2_firstFullest_36 : decode cX2_firstFullest 36 = .ok (.iload_n 1, 1) := by decide +kernel
theorem dX2_firstFullest_37 : decode cX2_firstFullest 37 = .ok (.iconst 1, 1) := by decide +kernel
theorem dX2_firstFullest_38 : decode cX2_firstFullest 38 = .ok (.iadd, 1) := by decide +kernel
theorem dX2_firstFullest_39 : decode cX2_firstFullest 39 = .ok (.sipush 128, 3) := by decide +kernel
theorem dX2_firstFullest_42 : decode cX2_firstFullest 42 = .ok (.imul, 1) := by decide +kernel
theorem dX2_firstFullest_43 : decode cX2_firstFullest 43 = .ok (.iload_n 2, 1) := by decide +kernel
theorem dX2_firstFullest_44 : decode cX2_firstFullest 44 = .ok (.iconst 1, 1) := by decide +kernel
theorem dX2_firstFullest_45 : decode cX2_firstFullest 45 = .ok (.iload 4, 2) := by decide +kernel
theorem dX2_firstFullest_47 : decode cX2_firstFullest 47 = .ok (.ishl, 1) := by decide +kernel
theorem dX2_firstFullest_48 : decode cX2_firstFullest 48 = .ok (.ior, 1) := by decide +kernel
theorem dX2_firstFullest_49 : decode cX2_firstFullest 49 = .ok (.iadd, 1) := by decide +kernel
theorem dX2_firstFullest_50 : decode cX2_firstFullest 50 = .ok (.iaload, 1) := by decide +kernel
theorem dX2_firstFullest_51 : decode cX2_firstFullest 51 = .ok (.ifCond .le 6, 3) := by decide +kernel
theorem dX2_firstFullest_54 : decode cX2_firstFullest 54 = .ok (.iload 4, 2) := by decide +kernel
theorem dX2_firstFullest_56 : decode cX2_firstFullest 56 = .ok (.ireturn, 1) := by decide +kernel
theorem dX2_firstFullest_57 : decode cX2_firstFullest 57 = .ok (.iinc 4 1, 3) := by decide +kernel
theorem dX2_firstFullest_60 : decode cX2_firstFullest 60 = .ok (.goto (-46), 3) := by decide +kernel
theorem dX2_firstFullest_63 : decode cX2_firstFullest 63 = .ok (.bipush (-9), 2) := by decide +kernel
theorem dX2_firstFullest_65 : decode cX2_firstFullest 65 = .ok (.ireturn, 1) := by decide +kernel
def F_X2_firstFullest_L14 (S : aSt) (a0 : Nat) (a1 : Int32) (a2 : Int32) (v10 : Int32) (K63 : Option Int32) : Nat → Int32 → Option Int32
  | 0, _ => none
  | fu + 1, l14_4 =>
    if (S.1 a0 4) ≤ l14_4 then (K63) else
    jn ((F_X2_firstFullest_L14 S a0 a1 a2 v10 K63 fu (l14_4 + (1 : Int32)) : Option Int32)) fun K57 =>
    if (v10 &&& ((1 : Int32) <<< (l14_4 &&& 31))) = 0 then (K57) else
    rfd (S.2.2 a0 2) 7 fun k33 =>
    grd (inb (((a1 + (1 : Int32)) * (128 : Int32)) + (a2 ||| ((1 : Int32) <<< (l14_4 &&& 31)))) (SH k33).2) <|
    if (S.1 k33 (((a1 + (1 : Int32)) * (128 : Int32)) + (a2 ||| ((1 : Int32) <<< (l14_4 &&& 31)))).toNatClampNeg) ≤ 0 then (K57) else
    some l14_4
def F_X2_firstFullest (n : Nat) (S : aSt) (a0 : Nat) (a1 : Int32) (a2 : Int32) : Option Int32 :=
rfd (S.2.2 a0 0) 7 fun k1 =>
grd (inb a1 (SH k1).2) <|
nm ((S.1 k1 a1.toNatClampNeg) &&& (a2 ^^^ (-1 : Int32))) fun v10 =>
jn ((some (-9 : Int32) : Option Int32)) fun K63 =>
F_X2_firstFullest_L14 S a0 a1 a2 v10 K63 n (0 : Int32)
set_option maxHeartbeats 4000000 in
set_option maxRecDepth 100000 in
theorem C_X2_firstFullest (G : aG) (l : Launch) (n : Nat) (S : aSt) (a0 : Nat) (a1 : Int32) (a2 : Int32) (r : Int32) (ha0 : isT a0 1 = true) (hf : F_X2_firstFullest n S a0 a1 a2 = some r) : Ctr G l yX2_firstFullest mX2_firstFullest (rmM 1) 97 97 S [.ref a0, .int a1, .int a2] (some (.int r)) S := by
  refine Ctr.of (by decide) rfl rfl (Nat.le_of_ble_eq_true rfl) [(0, .ref a0), (1, .int a1), (2, .int a2)] rfl ?_
  unfold F_X2_firstFullest at hf
  refine Go.aload_n 0 1 rfl dX2_firstFullest_0 rfl ?_
  obtain ⟨k1, qk1, hk1, hf⟩ := f_rfd hf
  refine Go.getR 4 rfl dX2_firstFullest_1 fl_X2_9 rfl (isT_lt ha0) (isT_sh ha0) qk1 ?_
  refine Go.iload_n 1 5 rfl dX2_firstFullest_4 rfl ?_
  obtain ⟨g5, hf⟩ := f_grd hf
  refine Go.iald 6 rfl dX2_firstFullest_5 (isT_lt hk1) (isT_sh hk1) g5 ?_
  refine Go.iload_n 2 7 rfl dX2_firstFullest_6 rfl ?_
  refine Go.iconst (-1 : Int32) 8 rfl dX2_firstFullest_7 ci_m1 ?_
  refine Go.ixor 9 rfl dX2_firstFullest_8 ?_
  refine Go.iand 10 rfl dX2_firstFullest_9 ?_
  obtain ⟨v10, ev10, hf⟩ := f_nm hf
  refine Go.topi v10 ev10 ?_
  refine Go.istore_n 11 [(3, .int v10), (0, .ref a0), (1, .int a1), (2, .int a2)] rfl dX2_firstFullest_10 (by decide) rfl ?_
  refine Go.iconst (0 : Int32) 12 rfl dX2_firstFullest_11 ci_0 ?_
  refine Go.istore 14 [(4, .int (0 : Int32)), (3, .int v10), (0, .ref a0), (1, .int a1), (2, .int a2)] rfl dX2_firstFullest_12 (by decide) rfl ?_
  obtain ⟨K63, eK63, hf⟩ := f_jn hf
  have J63 : K63 = some r → GoM G l 1 (TmR G (some (.int r)) 97 S 0 0) mX2_firstFullest 63 [] [] S := by
    intro hf
    rw [eK63] at hf
    refine Go.bipush (-9 : Int32) 65 rfl dX2_firstFullest_63 cb_m9 ?_
    exact Go.ir rfl dX2_firstFullest_65 hf
  clear eK63
  have L14 : ∀ (fu : Nat) (l14_4 : Int32), F_X2_firstFullest_L14 S a0 a1 a2 v10 K63 fu l14_4 = some r → GoM G l 1 (TmR G (some (.int r)) 97 S 0 0) mX2_firstFullest 14 [(0, .ref a0), (1, .int a1), (2, .int a2), (3, .int v10), (4, .int l14_4)] [] S := by
    intro fu
    induction fu with
    | zero => intro l14_4 hf; rw [F_X2_firstFullest_L14] at hf; cases hf
    | succ fu ih =>
      intro l14_4 hf
      rw [F_X2_firstFullest_L14] at hf
      refine Go.iload 4 16 rfl dX2_firstFullest_14 rfl ?_
      refine Go.aload_n 0 17 rfl dX2_firstFullest_16 rfl ?_
      refine Go.getI 20 rfl dX2_firstFullest_17 fl_X2_25 rfl (isT_lt ha0) (isT_sh ha0) ?_
      refine Go.icmp_ge 63 23 rfl dX2_firstFullest_20 rfl (fun hc => ?_) (fun hc => ?_)
      · replace hf := f_if hf hc
        exact Go.sub [] [] rfl (J63 hf)
      · replace hf := f_el hf hc
        refine Go.iload_n 3 24 rfl dX2_firstFullest_23 rfl ?_
        refine Go.iconst (1 : Int32) 25 rfl dX2_firstFullest_24 ci_1 ?_
        refine Go.iload 4 27 rfl dX2_firstFullest_25 rfl ?_
        refine Go.ishl 28 rfl dX2_firstFullest_27 ?_
        refine Go.iand 29 rfl dX2_firstFullest_28 ?_
        obtain ⟨K57, eK57, hf⟩ := f_jn hf
        have J57 : K57 = some r → GoM G l 1 (TmR G (some (.int r)) 97 S 0 0) mX2_firstFullest 57 [(0, .ref a0), (1, .int a1), (2, .int a2), (3, .int v10), (4, .int l14_4)] [] S := by
          intro hf
          rw [eK57] at hf
          refine Go.inc 4 60 (1 : Int32) [(4, .int (l14_4 + (1 : Int32))), (0, .ref a0), (1, .int a1), (2, .int a2), (3, .int v10)] rfl dX2_firstFullest_57 rfl ci_1 (by decide) rfl ?_
          refine Go.goto 14 dX2_firstFullest_60 rfl ?_
          exact Go.sub [1, 2, 3, 4, 0] [(0, .ref a0), (1, .int a1), (2, .int a2), (3, .int v10), (4, .int (l14_4 + (1 : Int32)))] rfl (ih (l14_4 + (1 : Int32)) hf)
        clear eK57
        refine Go.if_eq 57 32 rfl dX2_firstFullest_29 rfl (fun hc => ?_) (fun hc => ?_)
        · replace hf := f_if hf hc
          exact J57 hf
        · replace hf := f_el hf hc
          refine Go.aload_n 0 33 rfl dX2_firstFullest_32 rfl ?_
          obtain ⟨k33, qk33, hk33, hf⟩ := f_rfd hf
          refine Go.getR 36 rfl dX2_firstFullest_33 fl_X2_18 rfl (isT_lt ha0) (isT_sh ha0) qk33 ?_
          refine Go.iload_n 1 37 rfl dX2_firstFullest_36 rfl ?_
          refine Go.iconst (1 : Int32) 38 rfl dX2_firstFullest_37 ci_1 ?_
          refine Go.iadd 39 rfl dX2_firstFullest_38 ?_
          refine Go.sipush (128 : Int32) 42 rfl dX2_firstFullest_39 cs_128 ?_
          refine Go.imul 43 rfl dX2_firstFullest_42 ?_
          refine Go.iload_n 2 44 rfl dX2_firstFullest_43 rfl ?_
          refine Go.iconst (1 : Int32) 45 rfl dX2_firstFullest_44 ci_1 ?_
          refine Go.iload 4 47 rfl dX2_firstFullest_45 rfl ?_
          refine Go.ishl 48 rfl dX2_firstFullest_47 ?_
          refine Go.ior 49 rfl dX2_firstFullest_48 ?_
          refine Go.iadd 50 rfl dX2_firstFullest_49 ?_
          obtain ⟨g50, hf⟩ := f_grd hf
          refine Go.iald 51 rfl dX2_firstFullest_50 (isT_lt hk33) (isT_sh hk33) g50 ?_
          refine Go.if_le 57 54 rfl dX2_firstFullest_51 rfl (fun hc => ?_) (fun hc => ?_)
          · replace hf := f_if hf hc
            exact J57 hf
          · replace hf := f_el hf hc
            refine Go.iload 4 56 rfl dX2_firstFullest_54 rfl ?_
            exact Go.ir rfl dX2_firstFullest_56 hf
  exact Go.sub [2, 3, 4, 1, 0] [(0, .ref a0), (1, .int a1), (2, .int a2), (3, .int v10), (4, .int (0 : Int32))] rfl (L14 n (0 : Int32) hf)
theorem dX2_layFullest_0 : decode cX2_layFullest 0 = .ok (.aload_n 1, 1) := by decide +kernel
theorem dX2_layFullest_1 : decode cX2_layFullest 1 = .ok (.aload_n 0, 1) := by decide +kernel
theorem dX2_layFullest_2 : decode cX2_layFullest 2 = .ok (.getfield 21, 3) := by decide +kernel
theorem dX2_layFullest_5 : decode cX2_layFullest 5 = .ok (.bipush (-9), 2) := by decide +kernel
theorem dX2_layFullest_7 : decode cX2_layFullest 7 = .ok (.invokevirtual 90, 3) := by decide +kernel
theorem dX2_layFullest_10 : decode cX2_layFullest 10 = .ok (.iconst 0, 1) := by decide +kernel
theorem dX2_layFullest_11 : decode cX2_layFullest 11 = .ok (.istore_n 2, 1) := by decide +kernel
theorem dX2_layFullest_12 : decode cX2_layFullest 12 = .ok (.iconst 0, 1) := by decide +kernel
theorem dX2_layFullest_13 : decode cX2_layFullest 13 = .ok (.istore_n 3, 1) := by decide +kernel
theorem dX2_layFullest_14 : decode cX2_layFullest 14 = .ok (.iload_n 3, 1) := by decide +kernel
theorem dX2_layFullest_15 : decode cX2_layFullest 15 = .ok (.aload_n 0, 1) := by decide +kernel
theorem dX2_layFullest_16 : decode cX2_layFullest 16 = .ok (.getfield 21, 3) := by decide +kernel
theorem dX2_layFullest_19 : decode cX2_layFullest 19 = .ok (.if_icmp .ge 42, 3) := by decide +kernel
theorem dX2_layFullest_22 : decode cX2_layFullest 22 = .ok (.aload_n 0, 1) := by decide +kernel
theorem dX2_layFullest_23 : decode cX2_layFullest 23 = .ok (.iload_n 3, 1) := by decide +kernel
theorem dX2_layFullest_24 : decode cX2_layFullest 24 = .ok (.iload_n 2, 1) := by decide +kernel
theorem dX2_layFullest_25 : decode cX2_layFullest 25 = .ok (.invokevirtual 96, 3) := by decide +kernel
theorem dX2_layFullest_28 : decode cX2_layFullest 28 = .ok (.istore 4, 2) := by decide +kernel
theorem dX2_layFullest_30 : decode cX2_layFullest 30 = .ok (.aload_n 1, 1) := by decide +kernel
theorem dX2_layFullest_31 : decode cX2_layFullest 31 = .ok (.iload_n 3, 1) := by decide +kernel
theorem dX2_layFullest_32 : decode cX2_layFullest 32 = .ok (.iload 4, 2) := by decide +kernel
theorem dX2_layFullest_34 : decode cX2_layFullest 34 = .ok (.invokevirtual 99, 3) := by decide +kernel
theorem dX2_layFullest_37 : decode cX2_layFullest 37 = .ok (.iload_n 2, 1) := by decide +kernel
theorem dX2_layFullest_38 : decode cX2_layFullest 38 = .ok (.iload 4, 2) := by decide +kernel
theorem dX2_layFullest_40 : decode cX2_layFullest 40 = .ok (.bipush (-9), 2) := by decide +kernel
theorem dX2_layFullest_42 : decode cX2_layFullest 42 = .ok (.if_icmp .ne 7, 3) := by decide +kernel
theorem dX2_layFullest_45 : decode cX2_layFullest 45 = .ok (.iconst 0, 1) := by decide +kernel
theorem dX2_layFullest_46 : decode cX2_layFullest 46 = .ok (.goto 7, 3) := by decide +kernel
theorem dX2_layFullest_49 : decode cX2_layFullest 49 = .ok (.iconst 1, 1) := by decide +kernel
theorem dX2_layFullest_50 : decode cX2_layFullest 50 = .ok (.iload 4, 2) := by decide +kernel
theorem dX2_layFullest_52 : decode cX2_layFullest 52 = .ok (.ishl, 1) := by decide +kernel
theorem dX2_layFullest_53 : decode cX2_layFullest 53 = .ok (.ior, 1) := by decide +kernel
theorem dX2_layFullest_54 : decode cX2_layFullest 54 = .ok (.istore_n 2, 1) := by decide +kernel
theorem dX2_layFullest_55 : decode cX2_layFullest 55 = .ok (.iinc 3 1, 3) := by decide +kernel
theorem dX2_layFullest_58 : decode cX2_layFullest 58 = .ok (.goto (-44), 3) := by decide +kernel
theorem dX2_layFullest_61 : decode cX2_layFullest 61 = .ok (.return_, 1) := by decide +kernel
def F_X2_layFullest_L14 (n : Nat) (a0 : Nat) (a1 : Nat) (K61 : aSt → Option aSt) : Nat → Int32 → Int32 → aSt → Option aSt
  | 0, _, _, _ => none
  | fu + 1, l14_2, l14_3, l14S =>
    if (l14S.1 a0 3) ≤ l14_3 then (K61 l14S) else
    (F_X2_firstFullest n l14S a0 l14_3 l14_2).bind fun r25 =>
    (F_X4_layAt n l14S a1 l14_3 r25).bind fun S34 =>
    jn (fun (j53s1 : Int32) => (nm (l14_2 ||| j53s1) fun v54 =>
    F_X2_layFullest_L14 n a0 a1 K61 fu v54 (l14_3 + (1 : Int32)) S34 : Option aSt)) fun K53 =>
    if r25 = (-9 : Int32) then (K53 (0 : Int32)) else
    K53 ((1 : Int32) <<< (r25 &&& 31))
def F_X2_layFullest (n : Nat) (S : aSt) (a0 : Nat) (a1 : Nat) : Option aSt :=
(F_X4_begin n S a1 (S.1 a0 3) (-9 : Int32)).bind fun S7 =>
jn (fun (x61S : aSt) => (some x61S : Option aSt)) fun K61 =>
F_X2_layFullest_L14 n a0 a1 K61 n (0 : Int32) (0 : Int32) S7
set_option maxHeartbeats 4000000 in
set_option maxRecDepth 100000 in
theorem C_X2_layFullest (G : aG) (l : Launch) (n : Nat) (S : aSt) (a0 : Nat) (a1 : Nat) (Sr : aSt) (ha0 : isT a0 1 = true) (ha1 : isT a1 3 = true) (hf : F_X2_layFullest n S a0 a1 = some Sr) : Ctr G l yX2_layFullest mX2_layFullest (rmM 3) 97 97 S [.ref a0, .ref a1] none Sr := by
  refine Ctr.of (by decide) rfl rfl (Nat.le_of_ble_eq_true rfl) [(0, .ref a0), (1, .ref a1)] rfl ?_
  unfold F_X2_layFullest at hf
  refine Go.aload_n 1 1 rfl dX2_layFullest_0 rfl ?_
  refine Go.aload_n 0 2 rfl dX2_layFullest_1 rfl ?_
  refine Go.getI 5 rfl dX2_layFullest_2 fl_X2_21 rfl (isT_lt ha0) (isT_sh ha0) ?_
  refine Go.bipush (-9 : Int32) 7 rfl dX2_layFullest_5 cb_m9 ?_
  obtain ⟨S7, eS7, hf⟩ := f_bnd hf
  refine Go.cVv 10 [.int (S.1 a0 3), .int (-9 : Int32)] [] (C_X4_begin G l n S a1 (S.1 a0 3) (-9 : Int32) S7 ha1 eS7) rfl dX2_layFullest_7 cv_X2_90 ha1 (by decide) (by decide) rfl (Nat.le_of_ble_eq_true rfl) ?_
  refine Go.iconst (0 : Int32) 11 rfl dX2_layFullest_10 ci_0 ?_
  refine Go.istore_n 12 [(2, .int (0 : Int32)), (0, .ref a0), (1, .ref a1)] rfl dX2_layFullest_11 (by decide) rfl ?_
  refine Go.iconst (0 : Int32) 13 rfl dX2_layFullest_12 ci_0 ?_
  refine Go.istore_n 14 [(3, .int (0 : Int32)), (2, .int (0 : Int32)), (0, .ref a0), (1, .ref a1)] rfl dX2_layFullest_13 (by decide) rfl ?_
  obtain ⟨K61, eK61, hf⟩ := f_jn hf
  have J61 : ∀ (x61S : aSt), K61 x61S = some Sr → GoM G l 3 (TmR G none 97 Sr 0 0) mX2_layFullest 61 [] [] x61S := by
    intro x61S hf
    rw [eK61] at hf
    exact Go.vr rfl dX2_layFullest_61 hf
  clear eK61
  have L14 : ∀ (fu : Nat) (l14_2 : Int32) (l14_3 : Int32) (l14S : aSt), F_X2_layFullest_L14 n a0 a1 K61 fu l14_2 l14_3 l14S = some Sr → GoM G l 3 (TmR G none 97 Sr 0 0) mX2_layFullest 14 [(0, .ref a0), (1, .ref a1), (2, .int l14_2), (3, .int l14_3)] [] l14S := by
    intro fu
    induction fu with
    | zero => intro l14_2 l14_3 l14S hf; rw [F_X2_layFullest_L14] at hf; cases hf
    | succ fu ih =>
      intro l14_2 l14_3 l14S hf
      rw [F_X2_layFullest_L14] at hf
      refine Go.iload_n 3 15 rfl dX2_layFullest_14 rfl ?_
      refine Go.aload_n 0 16 rfl dX2_layFullest_15 rfl ?_
      refine Go.getI 19 rfl dX2_layFullest_16 fl_X2_21 rfl (isT_lt ha0) (isT_sh ha0) ?_
      refine Go.icmp_ge 61 22 rfl dX2_layFullest_19 rfl (fun hc => ?_) (fun hc => ?_)
      · replace hf := f_if hf hc
        exact Go.sub [] [] rfl (J61 l14S hf)
      · replace hf := f_el hf hc
        refine Go.aload_n 0 23 rfl dX2_layFullest_22 rfl ?_
        refine Go.iload_n 3 24 rfl dX2_layFullest_23 rfl ?_
        refine Go.iload_n 2 25 rfl dX2_layFullest_24 rfl ?_
        obtain ⟨r25, er25, hf⟩ := f_bnd hf
        refine Go.cV 28 [.int l14_3, .int l14_2] [] (C_X2_firstFullest G l n l14S a0 l14_3 l14_2 r25 ha0 er25) rfl dX2_layFullest_25 cv_X2_96 ha0 (by decide) (by decide) rfl (Nat.le_of_ble_eq_true rfl) ?_
        refine Go.istore 30 [(4, .int r25), (0, .ref a0), (1, .ref a1), (2, .int l14_2), (3, .int l14_3)] rfl dX2_layFullest_28 (by decide) rfl ?_
        refine Go.aload_n 2 31 rfl dX2_layFullest_30 rfl ?_
        refine Go.iload_n 4 32 rfl dX2_layFullest_31 rfl ?_
        refine Go.iload 0 34 rfl dX2_layFullest_32 rfl ?_
        obtain ⟨S34, eS34, hf⟩ := f_bnd hf
        refine Go.cVv 37 [.int l14_3, .int r25] [] (C_X4_layAt G l n l14S a1 l14_3 r25 S34 ha1 eS34) rfl dX2_layFullest_34 cv_X2_99 ha1 (by decide) (by decide) rfl (Nat.le_of_ble_eq_true rfl) ?_
        refine Go.iload_n 3 38 rfl dX2_layFullest_37 rfl ?_
        refine Go.iload 0 40 rfl dX2_layFullest_38 rfl ?_
        refine Go.bipush (-9 : Int32) 42 rfl dX2_layFullest_40 cb_m9 ?_
        obtain ⟨K53, eK53, hf⟩ := f_jn hf
        have J53 : ∀ (j53s1 : Int32), K53 j53s1 = some Sr → GoM G l 3 (TmR G none 97 Sr 0 0) mX2_layFullest 53 [(0, .ref a0), (1, .ref a1), (3, .int l14_3)] [.int j53s1, .int l14_2] S34 := by
          intro j53s1 hf
          rw [eK53] at hf
          refine Go.ior 54 rfl dX2_layFullest_53 ?_
          obtain ⟨v54, ev54, hf⟩ := f_nm hf
          refine Go.topi v54 ev54 ?_
          refine Go.istore_n 55 [(2, .int v54), (0, .ref a0), (1, .ref a1), (3, .int l14_3)] rfl dX2_layFullest_54 (by decide) rfl ?_
          refine Go.inc 3 58 (1 : Int32) [(3, .int (l14_3 + (1 : Int32))), (2, .int v54), (0, .ref a0), (1, .ref a1)] rfl dX2_layFullest_55 rfl ci_1 (by decide) rfl ?_
          refine Go.goto 14 dX2_layFullest_58 rfl ?_
          exact Go.sub [2, 3, 1, 0] [(0, .ref a0), (1, .ref a1), (2, .int v54), (3, .int (l14_3 + (1 : Int32)))] rfl (ih v54 (l14_3 + (1 : Int32)) S34 hf)
        clear eK53
        refine Go.icmp_ne 49 45 rfl dX2_layFullest_42 rfl (fun hc => ?_) (fun hc => ?_)
        · replace hf := f_el hf hc
          refine Go.iconst (1 : Int32) 50 rfl dX2_layFullest_49 ci_1 ?_
          refine Go.iload 0 52 rfl dX2_layFullest_50 rfl ?_
          refine Go.ishl 53 rfl dX2_layFullest_52 ?_
          exact Go.sub [1, 2, 4] [(0, .ref a0), (1, .ref a1), (3, .int l14_3)] rfl (J53 ((1 : Int32) <<< (r25 &&& 31)) hf)
        · replace hf := f_if hf hc
          refine Go.iconst (0 : Int32) 46 rfl dX2_layFullest_45 ci_0 ?_
          refine Go.goto 53 dX2_layFullest_46 rfl ?_
          exact Go.sub [1, 2, 4] [(0, .ref a0), (1, .ref a1), (3, .int l14_3)] rfl (J53 (0 : Int32) hf)
  exact Go.sub [2, 3, 1, 0] [(0, .ref a0), (1, .ref a1), (2, .int (0 : Int32)), (3, .int (0 : Int32))] rfl (L14 n (0 : Int32) (0 : Int32) S7 hf)
theorem dX2_firstWished_0 : decode cX2_firstWished 0 = .ok (.aload_n 0, 1) := by decide +kernel
theorem dX2_firstWished_1 : decode cX2_firstWished 1 = .ok (.getfield 18, 3) := by decide +kernel
theorem dX2_firstWished_4 : decode cX2_firstWished 4 = .ok (.iload_n 1, 1) := by decide +kernel
theorem dX2_firstWished_5 : decode cX2_firstWished 5 = .ok (.sipush 128, 3) := by decide +kernel
theorem dX2_firstWished_8 : decode cX2_firstWished 8 = .ok (.imul, 1) := by decide +kernel
theorem dX2_firstWished_9 : decode cX2_firstWished 9 = .ok (.iload_n 2, 1) := by decide +kernel
theorem dX2_firstWished_10 : decode cX2_firstWished 10 = .ok (.iadd, 1) := by decide +kernel
theorem dX2_firstWished_11 : decode cX2_firstWished 11 = .ok (.iaload, 1) := by decide +kernel
theorem dX2_firstWished_12 : decode cX2_firstWished 12 = .ok (.istore 4, 2) := by decide +kernel
theorem dX2_firstWished_14 : decode cX2_firstWished 14 = .ok (.aload_n 0, 1) := by decide +kernel
theorem dX2_firstWished_15 : decode cX2_firstWished 15 = .ok (.getfield 9, 3) := by decide +kernel
theorem dX2_firstWished_18 : decode cX2_firstWished 18 = .ok (.iload_n 1, 1) := by decide +kernel
theorem dX2_firstWished_19 : decode cX2_firstWished 19 = .ok (.iaload, 1) := by decide +kernel
theorem dX2_firstWished_20 : decode cX2_firstWished 20 = .ok (.iload_n 2, 1) := by decide +kernel
theorem dX2_firstWished_21 : decode cX2_firstWished 21 = .ok (.iconst (-1), 1) := by decide +kernel
theorem dX2_firstWished_22 : decode cX2_firstWished 22 = .ok (.ixor, 1) := by decide +kernel
theorem dX2_firstWished_23 : decode cX2_firstWished 23 = .ok (.iand, 1) := by decide +kernel
theorem dX2_firstWished_24 : decode cX2_firstWished 24 = .ok (.istore 5, 2) := by decide +kernel
theorem dX2_firstWished_26 : decode cX2_firstWished 26 = .ok (.iconst 0, 1) := by decide +kernel
theorem dX2_firstWished_27 : decode cX2_firstWished 27 = .ok (.istore 6, 2) := by decide +kernel
theorem dX2_firstWished_29 : decode cX2_firstWished 29 = .ok (.iload 6, 2) := by decide +kernel
theorem dX2_firstWished_31 : decode cX2_firstWished 31 = .ok (.aload_n 0, 1) := by decide +kernel
theorem dX2_firstWished_32 : decode cX2_firstWished 32 = .ok (.getfield 25, 3) := by decide +kernel
theorem dX2_firstWished_35 : decode cX2_firstWished 35 = .ok (.if_icmp .ge 60, 3) := by decide +kernel
theorem dX2_firstWished_38 : decode cX2_firstWished 38 = .ok (.iload 5, 2) := by decide +kernel
theorem dX2_firstWished_40 : decode cX2_firstWished 40 = .ok (.iconst 1, 1) := by decide +kernel
theorem dX2_firstWished_41 : decode cX2_firstWished 41 = .ok (.iload 6, 2) := by decide +kernel
theorem dX2_firstWished_43 : decode cX2_firstWished 43 = .ok (.ishl, 1) := by decide +kernel
theorem dX2_firstWished_44 : decode cX2_firstWished 44 = .ok (.iand, 1) := by decide +kernel
theorem dX2_firstWished_45 : decode cX2_firstWished 45 = .ok (.ifCond .eq 7, 3) := by decide +kernel
theorem dX2_firstWished_48 : decode cX2_firstWished 48 = .ok (.iconst 1, 1) := by decide +kernel
theorem dX2_firstWished_49 : decode cX2_firstWished 49 = .ok (.goto 4, 3) := by decide +kernel
theorem dX2_firstWished_52 : decode cX2_firstWished 52 = .ok (.iconst 0, 1) := by decide +kernel
theorem dX2_firstWished_53 : decode cX2_firstWished 53 = .ok (.istore 7, 2) := by decide +kernel
theorem dX2_firstWished_55 : decode cX2_firstWished 55 = .ok (.iload 7, 2) := by decide +kernel
theorem dX2_firstWished_57 : decode cX2_firstWished 57 = .ok (.ifCond .eq 32, 3) := by decide +kernel
theorem dX2_firstWished_60 : decode cX2_firstWished 60 = .ok (.iload_n 3, 1) := by decide +kernel
theorem dX2_firstWished_61 : decode cX2_firstWished 61 = .ok (.aload_n 0, 1) := by decide +kernel
theorem dX2_firstWished_62 : decode cX2_firstWished 62 = .ok (.getfield 18, 3) := by decide +kernel
theorem dX2_firstWished_65 : decode cX2_firstWished 65 = .ok (.iload_n 1, 1) := by decide +kernel
theorem dX2_firstWished_66 : decode cX2_firstWished 66 = .ok (.iconst 1, 1) := by decide +kernel
theorem dX2_firstWished_67 : decode cX2_firstWished 67 = .ok (.iadd, 1) := by decide +kernel
theorem dX2_firstWished_68 : decode cX2_firstWished 68 = .ok (.sipush 128, 3) := by decide +kernel
theorem dX2_firstWished_71 : decode cX2_firstWished 71 = .ok (.imul, 1) := by decide +kernel
theorem dX2_firstWished_72 : decode cX2_firstWished 72 = .ok (.iload_n 2, 1) := by decide +kernel
theorem dX2_firstWished_73 : decode cX2_firstWished 73 = .ok (.iconst 1, 1) := by decide +kernel
theorem dX2_firstWished_74 : decode cX2_firstWished 74 = .ok (.iload 6, 2) := by decide +kernel
theorem dX2_firstWished_76 : decode cX2_firstWished 76 = .ok (.ishl, 1) := by decide +kernel
theorem dX2_firstWished_77 : decode cX2_firstWished 77 = .ok (.ior, 1) := by decide +kernel
theorem dX2_firstWished_78 : decode cX2_firstWished 78 = .ok (.iadd, 1) := by decide +kernel
theorem dX2_firstWished_79 : decode cX2_firstWished 79 = .ok (.iaload, 1) := by decide +kernel
theorem dX2_firstWished_80 : decode cX2_firstWished 80 = .ok (.iadd, 1) := by decide +kernel
theorem dX2_firstWished_81 : decode cX2_firstWished 81 = .ok (.iload 4, 2) := by decide +kernel
theorem dX2_firstWished_83 : decode cX2_firstWished 83 = .ok (.if_icmp .ne 6, 3) := by decide +kernel
theorem dX2_firstWished_86 : decode cX2_firstWished 86 = .ok (.iload 6, 2) := by decide +kernel
theorem dX2_firstWished_88 : decode cX2_firstWished 88 = .ok (.ireturn, 1) := by decide +kernel
theorem dX2_firstWished_89 : decode cX2_firstWished 89 = .ok (.iinc 6 1, 3) := by decide +kernel
theorem dX2_firstWished_92 : decode cX2_firstWished 92 = .ok (.goto (-63), 3) := by decide +kernel
theorem dX2_firstWished_95 : decode cX2_firstWished 95 = .ok (.bipush (-9), 2) := by decide +kernel
theorem dX2_firstWished_97 : decode cX2_firstWished 97 = .ok (.ireturn, 1) := by decide +kernel
def F_X2_firstWished_L29 (S : aSt) (a0 : Nat) (a1 : Int32) (a2 : Int32) (a3 : Int32) (k1 : Nat) (v12 : Int32) (v24 : Int32) (K95 : Option Int32) : Nat → Int32 → Option Int32
  | 0, _ => none
  | fu + 1, l29_6 =>
    if (S.1 a0 4) ≤ l29_6 then (K95) else
    jn (fun (j53s0 : Int32) => (jn ((F_X2_firstWished_L29 S a0 a1 a2 a3 k1 v12 v24 K95 fu (l29_6 + (1 : Int32)) : Option Int32)) fun K89 =>
    if j53s0 = 0 then (K89) else
    grd (inb (((a1 + (1 : Int32)) * (128 : Int32)) + (a2 ||| ((1 : Int32) <<< (l29_6 &&& 31)))) (SH k1).2) <|
    if (a3 + (S.1 k1 (((a1 + (1 : Int32)) * (128 : Int32)) + (a2 ||| ((1 : Int32) <<< (l29_6 &&& 31)))).toNatClampNeg)) = v12 then (some l29_6) else
    K89 : Option Int32)) fun K53 =>
    if (v24 &&& ((1 : Int32) <<< (l29_6 &&& 31))) = 0 then (K53 (0 : Int32)) else
    K53 (1 : Int32)
def F_X2_firstWished (n : Nat) (S : aSt) (a0 : Nat) (a1 : Int32) (a2 : Int32) (a3 : Int32) : Option Int32 :=
rfd (S.2.2 a0 2) 7 fun k1 =>
grd (inb ((a1 * (128 : Int32)) + a2) (SH k1).2) <|
nm (S.1 k1 ((a1 * (128 : Int32)) + a2).toNatClampNeg) fun v12 =>
rfd (S.2.2 a0 0) 7 fun k15 =>
grd (inb a1 (SH k15).2) <|
nm ((S.1 k15 a1.toNatClampNeg) &&& (a2 ^^^ (-1 : Int32))) fun v24 =>
jn ((some (-9 : Int32) : Option Int32)) fun K95 =>
F_X2_firstWished_L29 S a0 a1 a2 a3 k1 v12 v24 K95 n (0 : Int32)
set_option maxHeartbeats 4000000 in
set_option maxRecDepth 100000 in
theorem C_X2_firstWished (G : aG) (l : Launch) (n : Nat) (S : aSt) (a0 : Nat) (a1 : Int32) (a2 : Int32) (a3 : Int32) (r : Int32) (ha0 : isT a0 1 = true) (hf : F_X2_firstWished n S a0 a1 a2 a3 = some r) : Ctr G l yX2_firstWished mX2_firstWished (rmM 1) 97 97 S [.ref a0, .int a1, .int a2, .int a3] (some (.int r)) S := by
  refine Ctr.of (by decide) rfl rfl (Nat.le_of_ble_eq_true rfl) [(0, .ref a0), (1, .int a1), (2, .int a2), (3, .int a3)] rfl ?_
  unfold F_X2_firstWished at hf
  refine Go.aload_n 0 1 rfl dX2_firstWished_0 rfl ?_
  obtain ⟨k1, qk1, hk1, hf⟩ := f_rfd hf
  refine Go.getR 4 rfl dX2_firstWished_1 fl_X2_18 rfl (isT_lt ha0) (isT_sh ha0) qk1 ?_
  refine Go.iload_n 1 5 rfl dX2_firstWished_4 rfl ?_
  refine Go.sipush (128 : Int32) 8 rfl dX2_firstWished_5 cs_128 ?_
  refine Go.imul 9 rfl dX2_firstWished_8 ?_
  refine Go.iload_n 2 10 rfl dX2_firstWished_9 rfl ?_
  refine Go.iadd 11 rfl dX2_firstWished_10 ?_
  obtain ⟨g11, hf⟩ := f_grd hf
  refine Go.iald 12 rfl dX2_firstWished_11 (isT_lt hk1) (isT_sh hk1) g11 ?_
  obtain ⟨v12, ev12, hf⟩ := f_nm hf
  refine Go.topi v12 ev12 ?_
  refine Go.istore 14 [(4, .int v12), (0, .ref a0), (1, .int a1), (2, .int a2), (3, .int a3)] rfl dX2_firstWished_12 (by decide) rfl ?_
  refine Go.aload_n 1 15 rfl dX2_firstWished_14 rfl ?_
  obtain ⟨k15, qk15, hk15, hf⟩ := f_rfd hf
  refine Go.getR 18 rfl dX2_firstWished_15 fl_X2_9 rfl (isT_lt ha0) (isT_sh ha0) qk15 ?_
  refine Go.iload_n 2 19 rfl dX2_firstWished_18 rfl ?_
  obtain ⟨g19, hf⟩ := f_grd hf
  refine Go.iald 20 rfl dX2_firstWished_19 (isT_lt hk15) (isT_sh hk15) g19 ?_
  refine Go.iload_n 3 21 rfl dX2_firstWished_20 rfl ?_
  refine Go.iconst (-1 : Int32) 22 rfl dX2_firstWished_21 ci_m1 ?_
  refine Go.ixor 23 rfl dX2_firstWished_22 ?_
  refine Go.iand 24 rfl dX2_firstWished_23 ?_
  obtain ⟨v24, ev24, hf⟩ := f_nm hf
  refine Go.topi v24 ev24 ?_
  refine Go.istore 26 [(5, .int v24), (4, .int v12), (0, .ref a0), (1, .int a1), (2, .int a2), (3, .int a3)] rfl dX2_firstWished_24 (by decide) rfl ?_
  refine Go.iconst (0 : Int32) 27 rfl dX2_firstWished_26 ci_0 ?_
  refine Go.istore 29 [(6, .int (0 : Int32)), (5, .int v24), (4, .int v12), (0, .ref a0), (1, .int a1), (2, .int a2), (3, .int a3)] rfl dX2_firstWished_27 (by decide) rfl ?_
  obtain ⟨K95, eK95, hf⟩ := f_jn hf
  have J95 : K95 = some r → GoM G l 1 (TmR G (some (.int r)) 97 S 0 0) mX2_firstWished 95 [] [] S := by
    intro hf
    rw [eK95] at hf
    refine Go.bipush (-9 : Int32) 97 rfl dX2_firstWished_95 cb_m9 ?_
    exact Go.ir rfl dX2_firstWished_97 hf
  clear eK95
  have L29 : ∀ (fu : Nat) (l29_6 : Int32), F_X2_firstWished_L29 S a0 a1 a2 a3 k1 v12 v24 K95 fu l29_6 = some r → GoM G l 1 (TmR G (some (.int r)) 97 S 0 0) mX2_firstWished 29 [(0, .ref a0), (1, .int a1), (2, .int a2), (3, .int a3), (4, .int v12), (5, .int v24), (6, .int l29_6)] [] S := by
    intro fu
    induction fu with
    | zero => intro l29_6 hf; rw [F_X2_firstWished_L29] at hf; cases hf
    | succ fu ih =>
      intro l29_6 hf
      rw [F_X2_firstWished_L29] at hf
      refine Go.iload 6 31 rfl dX2_firstWished_29 rfl ?_
      refine Go.aload_n 0 32 rfl dX2_firstWished_31 rfl ?_
      refine Go.getI 35 rfl dX2_firstWished_32 fl_X2_25 rfl (isT_lt ha0) (isT_sh ha0) ?_
      refine Go.icmp_ge 95 38 rfl dX2_firstWished_35 rfl (fun hc => ?_) (fun hc => ?_)
      · replace hf := f_if hf hc
        exact Go.sub [] [] rfl (J95 hf)
      · replace hf := f_el hf hc
        refine Go.iload 5 40 rfl dX2_firstWished_38 rfl ?_
        refine Go.iconst (1 : Int32) 41 rfl dX2_firstWished_40 ci_1 ?_
        refine Go.iload 6 43 rfl dX2_firstWished_41 rfl ?_
        refine Go.ishl 44 rfl dX2_firstWished_43 ?_
        refine Go.iand 45 rfl dX2_firstWished_44 ?_
        obtain ⟨K53, eK53, hf⟩ := f_jn hf
        have J53 : ∀ (j53s0 : Int32), K53 j53s0 = some r → GoM G l 1 (TmR G (some (.int r)) 97 S 0 0) mX2_firstWished 53 [(0, .ref a0), (1, .int a1), (2, .int a2), (3, .int a3), (4, .int v12), (5, .int v24), (6, .int l29_6)] [.int j53s0] S := by
          intro j53s0 hf
          rw [eK53] at hf
          refine Go.istore 55 [(7, .int j53s0), (0, .ref a0), (1, .int a1), (2, .int a2), (3, .int a3), (4, .int v12), (5, .int v24), (6, .int l29_6)] rfl dX2_firstWished_53 (by decide) rfl ?_
          refine Go.iload 0 57 rfl dX2_firstWished_55 rfl ?_
          obtain ⟨K89, eK89, hf⟩ := f_jn hf
          have J89 : K89 = some r → GoM G l 1 (TmR G (some (.int r)) 97 S 0 0) mX2_firstWished 89 [(0, .ref a0), (1, .int a1), (2, .int a2), (3, .int a3), (4, .int v12), (5, .int v24), (6, .int l29_6)] [] S := by
            intro hf
            rw [eK89] at hf
            refine Go.inc 6 92 (1 : Int32) [(6, .int (l29_6 + (1 : Int32))), (0, .ref a0), (1, .int a1), (2, .int a2), (3, .int a3), (4, .int v12), (5, .int v24)] rfl dX2_firstWished_89 rfl ci_1 (by decide) rfl ?_
            refine Go.goto 29 dX2_firstWished_92 rfl ?_
            exact Go.sub [1, 2, 3, 4, 5, 6, 0] [(0, .ref a0), (1, .int a1), (2, .int a2), (3, .int a3), (4, .int v12), (5, .int v24), (6, .int (l29_6 + (1 : Int32)))] rfl (ih (l29_6 + (1 : Int32)) hf)
          clear eK89
          refine Go.if_eq 89 60 rfl dX2_firstWished_57 rfl (fun hc => ?_) (fun hc => ?_)
          · replace hf := f_if hf hc
            exact Go.sub [1, 2, 3, 4, 5, 6, 7] [(0, .ref a0), (1, .int a1), (2, .int a2), (3, .int a3), (4, .int v12), (5, .int v24), (6, .int l29_6)] rfl (J89 hf)
          · replace hf := f_el hf hc
            refine Go.iload_n 4 61 rfl dX2_firstWished_60 rfl ?_
            refine Go.aload_n 1 62 rfl dX2_firstWished_61 rfl ?_
            refine Go.getR 65 rfl dX2_firstWished_62 fl_X2_18 rfl (isT_lt ha0) (isT_sh ha0) qk1 ?_
            refine Go.iload_n 2 66 rfl dX2_firstWished_65 rfl ?_
            refine Go.iconst (1 : Int32) 67 rfl dX2_firstWished_66 ci_1 ?_
            refine Go.iadd 68 rfl dX2_firstWished_67 ?_
            refine Go.sipush (128 : Int32) 71 rfl dX2_firstWished_68 cs_128 ?_
            refine Go.imul 72 rfl dX2_firstWished_71 ?_
            refine Go.iload_n 3 73 rfl dX2_firstWished_72 rfl ?_
            refine Go.iconst (1 : Int32) 74 rfl dX2_firstWished_73 ci_1 ?_
            refine Go.iload 7 76 rfl dX2_firstWished_74 rfl ?_
            refine Go.ishl 77 rfl dX2_firstWished_76 ?_
            refine Go.ior 78 rfl dX2_firstWished_77 ?_
            refine Go.iadd 79 rfl dX2_firstWished_78 ?_
            obtain ⟨g79, hf⟩ := f_grd hf
            refine Go.iald 80 rfl dX2_firstWished_79 (isT_lt hk1) (isT_sh hk1) g79 ?_
            refine Go.iadd 81 rfl dX2_firstWished_80 ?_
            refine Go.iload 5 83 rfl dX2_firstWished_81 rfl ?_
            refine Go.icmp_ne 89 86 rfl dX2_firstWished_83 rfl (fun hc => ?_) (fun hc => ?_)
            · replace hf := f_el hf hc
              exact Go.sub [1, 2, 3, 4, 5, 6, 7] [(0, .ref a0), (1, .int a1), (2, .int a2), (3, .int a3), (4, .int v12), (5, .int v24), (6, .int l29_6)] rfl (J89 hf)
            · replace hf := f_if hf hc
              refine Go.iload 7 88 rfl dX2_firstWished_86 rfl ?_
              exact Go.ir rfl dX2_firstWished_88 hf
        clear eK53
        refine Go.if_eq 52 48 rfl dX2_firstWished_45 rfl (fun hc => ?_) (fun hc => ?_)
        · replace hf := f_if hf hc
          refine Go.iconst (0 : Int32) 53 rfl dX2_firstWished_52 ci_0 ?_
          exact J53 (0 : Int32) hf
        · replace hf := f_el hf hc
          refine Go.iconst (1 : Int32) 49 rfl dX2_firstWished_48 ci_1 ?_
          refine Go.goto 53 dX2_firstWished_49 rfl ?_
          exact J53 (1 : Int32) hf
  exact Go.sub [3, 4, 5, 6, 2, 1, 0] [(0, .ref a0), (1, .int a1), (2, .int a2), (3, .int a3), (4, .int v12), (5, .int v24), (6, .int (0 : Int32))] rfl (L29 n (0 : Int32) hf)
