/-! written by program: X1_mostStaying X1_fewestMoved X1_layByAge X1_cardByLot X1_foldInto -/
theorem dX1_mostStaying_0 : decode cX1_mostStaying 0 = .ok (.iload_n 3, 1) := by decide +kernel
theorem dX1_mostStaying_1 : decode cX1_mostStaying 1 = .ok (.invokestatic 140, 3) := by decide +kernel
theorem dX1_mostStaying_4 : decode cX1_mostStaying 4 = .ok (.iconst 4, 1) := by decide +kernel
theorem dX1_mostStaying_5 : decode cX1_mostStaying 5 = .ok (.iload_n 1, 1) := by decide +kernel
theorem dX1_mostStaying_6 : decode cX1_mostStaying 6 = .ok (.isub, 1) := by decide +kernel
theorem dX1_mostStaying_7 : decode cX1_mostStaying 7 = .ok (.if_icmp .le 5, 3) := by decide +kernel
theorem dX1_mostStaying_10 : decode cX1_mostStaying 10 = .ok (.iconst (-1), 1) := by decide +kernel
theorem dX1_mostStaying_11 : decode cX1_mostStaying 11 = .ok (.ireturn, 1) := by decide +kernel
theorem dX1_mostStaying_12 : decode cX1_mostStaying 12 = .ok (.iload_n 1, 1) := by decide +kernel
theorem dX1_mostStaying_13 : decode cX1_mostStaying 13 = .ok (.iconst 4, 1) := by decide +kernel
theorem dX1_mostStaying_14 : decode cX1_mostStaying 14 = .ok (.if_icmp .lt 5, 3) := by decide +kernel
theorem dX1_mostStaying_17 : decode cX1_mostStaying 17 = .ok (.iconst 0, 1) := by decide +kernel
theorem dX1_mostStaying_18 : decode cX1_mostStaying 18 = .ok (.ireturn, 1) := by decide +kernel
theorem dX1_mostStaying_19 : decode cX1_mostStaying 19 = .ok (.iconst (-1), 1) := by decide +kernel
theorem dX1_mostStaying_20 : decode cX1_mostStaying 20 = .ok (.istore 4, 2) := by decide +kernel
theorem dX1_mostStaying_22 : decode cX1_mostStaying 22 = .ok (.iconst 0, 1) := by decide +kernel
theorem dX1_mostStaying_23 : decode cX1_mostStaying 23 = .ok (.istore 5, 2) := by decide +kernel
theorem dX1_mostStaying_25 : decode cX1_mostStaying 25 = .ok (.iload 5, 2) := by decide +kernel
theorem dX1_mostStaying_27 : decode cX1_mostStaying 27 = .ok (.bipush 6, 2) := by decide +kernel
theorem dX1_mostStaying_29 : decode cX1_mostStaying 29 = .ok (.if_icmp .ge 59, 3) := by decide +kernel
theorem dX1_mostStaying_32 : decode cX1_mostStaying 32 = .ok (.iload_n 2, 1) := by decide +kernel
theorem dX1_mostStaying_33 : decode cX1_mostStaying 33 = .ok (.iconst 1, 1) := by decide +kernel
theorem dX1_mostStaying_34 : decode cX1_mostStaying 34 = .ok (.iload 5, 2) := by decide +kernel
theorem dX1_mostStaying_36 : decode cX1_mostStaying 36 = .ok (.ishl, 1) := by decide +kernel
theorem dX1_mostStaying_37 : decode cX1_mostStaying 37 = .ok (.iand, 1) := by decide +kernel
theorem dX1_mostStaying_38 : decode cX1_mostStaying 38 = .ok (.ifCond .eq 44, 3) := by decide +kernel
theorem dX1_mostStaying_41 : decode cX1_mostStaying 41 = .ok (.aload_n 0, 1) := by decide +kernel
theorem dX1_mostStaying_42 : decode cX1_mostStaying 42 = .ok (.iload_n 1, 1) := by decide +kernel
theorem dX1_mostStaying_43 : decode cX1_mostStaying 43 = .ok (.iconst 1, 1) := by decide +kernel
theorem dX1_mostStaying_44 : decode cX1_mostStaying 44 = .ok (.iadd, 1) := by decide +kernel
theorem dX1_mostStaying_45 : decode cX1_mostStaying 45 = .ok (.iload_n 2, 1) := by decide +kernel
theorem dX1_mostStaying_46 : decode cX1_mostStaying 46 = .ok (.iload_n 3, 1) := by decide +kernel
theorem dX1_mostStaying_47 : decode cX1_mostStaying 47 = .ok (.iconst 1, 1) := by decide +kernel
theorem dX1_mostStaying_48 : decode cX1_mostStaying 48 = .ok (.iload 5, 2) := by decide +kernel
theorem dX1_mostStaying_50 : decode cX1_mostStaying 50 = .ok (.ishl, 1) := by decide +kernel
theorem dX1_mostStaying_51 : decode cX1_mostStaying 51 = .ok (.iconst (-1), 1) := by decide +kernel
theorem dX1_mostStaying_52 : decode cX1_mostStaying 52 = .ok (.ixor, 1) := by decide +kernel
theorem dX1_mostStaying_53 : decode cX1_mostStaying 53 = .ok (.iand, 1) := by decide +kernel
theorem dX1_mostStaying_54 : decode cX1_mostStaying 54 = .ok (.invokestatic 151, 3) := by decide +kernel
theorem dX1_mostStaying_57 : decode cX1_mostStaying 57 = .ok (.istore 6, 2) := by decide +kernel
theorem dX1_mostStaying_59 : decode cX1_mostStaying 59 = .ok (.iload 6, 2) := by decide +kernel
theorem dX1_mostStaying_61 : decode cX1_mostStaying 61 = .ok (.iconst (-1), 1) := by decide +kernel
theorem dX1_mostStaying_62 : decode cX1_mostStaying 62 = .ok (.if_icmp .eq 20, 3) := by decide +kernel
theorem dX1_mostStaying_65 : decode cX1_mostStaying 65 = .ok (.iload 4, 2) := by decide +kernel
theorem dX1_mostStaying_67 : decode cX1_mostStaying 67 = .ok (.iload 6, 2) := by decide +kernel
theorem dX1_mostStaying_69 : decode cX1_mostStaying 69 = .ok (.aload_n 0, 1) := by decide +kernel
theorem dX1_mostStaying_70 : decode cX1_mostStaying 70 = .ok (.iload 5, 2) := by decide +kernel
theorem dX1_mostStaying_72 : decode cX1_mostStaying 72 = .ok (.iload_n 1, 1) := by decide +kernel
theorem dX1_mostStaying_73 : decode cX1_mostStaying 73 = .ok (.invokevirtual 145, 3) := by decide +kernel
theorem dX1_mostStaying_76 : decode cX1_mostStaying 76 = .ok (.iadd, 1) := by decide +kernel
theorem dX1_mostStaying_77 : decode cX1_mostStaying 77 = .ok (.invokestatic 85, 3) := by decide +kernel
theorem dX1_mostStaying_80 : decode cX1_mostStaying 80 = .ok (.istore 4, 2) := by decide +kernel
theorem dX1_mostStaying_82 : decode cX1_mostStaying 82 = .ok (.iinc 5 1, 3) := by decide +kernel
theorem dX1_mostStaying_85 : decode cX1_mostStaying 85 = .ok (.goto (-60), 3) := by decide +kernel
theorem dX1_mostStaying_88 : decode cX1_mostStaying 88 = .ok (.iload 4, 2) := by decide +kernel
theorem dX1_mostStaying_90 : decode cX1_mostStaying 90 = .ok (.ireturn, 1) := by decide +kernel
def F_X1_mostStaying_L25 (n : Nat) (S : aSt) (a0 : Nat) (a1 : Int32) (a2 : Int32) (a3 : Int32) (self : aSt → Nat → Int32 → Int32 → Int32 → Option Int32) (K88 : Int32 → Option Int32) : Nat → Int32 → Int32 → Option Int32
  | 0, _, _ => none
  | fu + 1, l25_4, l25_5 =>
    if (6 : Int32) ≤ l25_5 then (K88 l25_4) else
    jn (fun (j82_4 : Int32) => (F_X1_mostStaying_L25 n S a0 a1 a2 a3 self K88 fu j82_4 (l25_5 + (1 : Int32)) : Option Int32)) fun K82 =>
    if (a2 &&& ((1 : Int32) <<< (l25_5 &&& 31))) = 0 then (K82 l25_4) else
    (self S a0 (a1 + (1 : Int32)) a2 (a3 &&& (((1 : Int32) <<< (l25_5 &&& 31)) ^^^ (-1 : Int32)))).bind fun r54 =>
    if r54 = (-1 : Int32) then (K82 l25_4) else
    (F_X1_cardsOfOn n S a0 l25_5 a1).bind fun r73 =>
    nm (if l25_4 < (r54 + r73) then (r54 + r73) else l25_4) fun v80 =>
    K82 v80
def F_X1_mostStaying_B (n : Nat) (self : aSt → Nat → Int32 → Int32 → Int32 → Option Int32) (S : aSt) (a0 : Nat) (a1 : Int32) (a2 : Int32) (a3 : Int32) : Option Int32 :=
(F_J6_bitCount_0f7a4 n S a3).bind fun r1 =>
if r1 ≤ ((4 : Int32) - a1) then (if a1 < (4 : Int32) then (jn (fun (x88_4 : Int32) => (some x88_4 : Option Int32)) fun K88 =>
F_X1_mostStaying_L25 n S a0 a1 a2 a3 self K88 n (-1 : Int32) (0 : Int32)) else
some (0 : Int32)) else
some (-1 : Int32)
def F_X1_mostStaying_D (n : Nat) : Nat → aSt → Nat → Int32 → Int32 → Int32 → Option Int32
  | 0 => fun _ _ _ _ _ => none
  | dp + 1 => fun S a0 a1 a2 a3 => F_X1_mostStaying_B n (F_X1_mostStaying_D n dp) S a0 a1 a2 a3
def F_X1_mostStaying (n : Nat) (S : aSt) (a0 : Nat) (a1 : Int32) (a2 : Int32) (a3 : Int32) : Option Int32 := F_X1_mostStaying_D n 7 S a0 a1 a2 a3
set_option maxHeartbeats 4000000 in
set_option maxRecDepth 100000 in
theorem C_X1_mostStaying_D (G : aG) (l : Launch) (n : Nat) : ∀ (dp : Nat), dp ≤ 8 → ∀ (S : aSt) (a0 : Nat) (a1 : Int32) (a2 : Int32) (a3 : Int32) (r : Int32) (ha0 : isT a0 0 = true), F_X1_mostStaying_D n dp S a0 a1 a2 a3 = some r → Ctr G l yX1_mostStaying mX1_mostStaying (rmM (2 + dp)) 97 97 S [.ref a0, .int a1, .int a2, .int a3] (some (.int r)) S := by
  intro dp
  induction dp with
  | zero => intro _ S a0 a1 a2 a3 r _ hf; rw [F_X1_mostStaying_D] at hf; cases hf
  | succ dp hself0 =>
    intro hdp S a0 a1 a2 a3 r ha0 hf
    have hself := hself0 (by omega)
    rw [F_X1_mostStaying_D] at hf
    unfold F_X1_mostStaying_B at hf
    generalize F_X1_mostStaying_D n dp = self at hf hself
    refine Ctr.of (by decide) rfl rfl (Nat.le_of_ble_eq_true rfl) [(0, .ref a0), (1, .int a1), (2, .int a2), (3, .int a3)] rfl ?_
    refine Go.iload_n 3 1 rfl dX1_mostStaying_0 rfl ?_
    obtain ⟨r1, er1, hf⟩ := f_bnd hf
    refine Go.cS 4 [.int a3] [] (C_J6_bitCount_0f7a4 G l n S a3 r1  er1) rfl dX1_mostStaying_1 cx_X1_140 (by omega) (by decide) rfl (Nat.le_of_ble_eq_true rfl) ?_
    refine Go.iconst (4 : Int32) 5 rfl dX1_mostStaying_4 ci_4 ?_
    refine Go.iload_n 1 6 rfl dX1_mostStaying_5 rfl ?_
    refine Go.isub 7 rfl dX1_mostStaying_6 ?_
    refine Go.icmp_le 12 10 rfl dX1_mostStaying_7 rfl (fun hc => ?_) (fun hc => ?_)
    · replace hf := f_if hf hc
      refine Go.iload_n 1 13 rfl dX1_mostStaying_12 rfl ?_
      refine Go.iconst (4 : Int32) 14 rfl dX1_mostStaying_13 ci_4 ?_
      refine Go.icmp_lt 19 17 rfl dX1_mostStaying_14 rfl (fun hc => ?_) (fun hc => ?_)
      · replace hf := f_if hf hc
        refine Go.iconst (-1 : Int32) 20 rfl dX1_mostStaying_19 ci_m1 ?_
        refine Go.istore 22 [(4, .int (-1 : Int32)), (0, .ref a0), (1, .int a1), (2, .int a2), (3, .int a3)] rfl dX1_mostStaying_20 (by decide) rfl ?_
        refine Go.iconst (0 : Int32) 23 rfl dX1_mostStaying_22 ci_0 ?_
        refine Go.istore 25 [(5, .int (0 : Int32)), (4, .int (-1 : Int32)), (0, .ref a0), (1, .int a1), (2, .int a2), (3, .int a3)] rfl dX1_mostStaying_23 (by decide) rfl ?_
        obtain ⟨K88, eK88, hf⟩ := f_jn hf
        have J88 : ∀ (x88_4 : Int32), K88 x88_4 = some r → GoM G l (2 + (dp + 1)) (TmR G (some (.int r)) 97 S 0 0) mX1_mostStaying 88 [(4, .int x88_4)] [] S := by
          intro x88_4 hf
          rw [eK88] at hf
          refine Go.iload 0 90 rfl dX1_mostStaying_88 rfl ?_
          exact Go.ir rfl dX1_mostStaying_90 hf
        clear eK88
        have L25 : ∀ (fu : Nat) (l25_4 : Int32) (l25_5 : Int32), F_X1_mostStaying_L25 n S a0 a1 a2 a3 self K88 fu l25_4 l25_5 = some r → GoM G l (2 + (dp + 1)) (TmR G (some (.int r)) 97 S 0 0) mX1_mostStaying 25 [(0, .ref a0), (1, .int a1), (2, .int a2), (3, .int a3), (4, .int l25_4), (5, .int l25_5)] [] S := by
          intro fu
          induction fu with
          | zero => intro l25_4 l25_5 hf; rw [F_X1_mostStaying_L25] at hf; cases hf
          | succ fu ih =>
            intro l25_4 l25_5 hf
            rw [F_X1_mostStaying_L25] at hf
            refine Go.iload 5 27 rfl dX1_mostStaying_25 rfl ?_
            refine Go.bipush (6 : Int32) 29 rfl dX1_mostStaying_27 cb_6 ?_
            refine Go.icmp_ge 88 32 rfl dX1_mostStaying_29 rfl (fun hc => ?_) (fun hc => ?_)
            · replace hf := f_if hf hc
              exact Go.sub [4] [(4, .int l25_4)] rfl (J88 l25_4 hf)
            · replace hf := f_el hf hc
              refine Go.iload_n 2 33 rfl dX1_mostStaying_32 rfl ?_
              refine Go.iconst (1 : Int32) 34 rfl dX1_mostStaying_33 ci_1 ?_
              refine Go.iload 5 36 rfl dX1_mostStaying_34 rfl ?_
              refine Go.ishl 37 rfl dX1_mostStaying_36 ?_
              refine Go.iand 38 rfl dX1_mostStaying_37 ?_
              obtain ⟨K82, eK82, hf⟩ := f_jn hf
              have J82 : ∀ (j82_4 : Int32), K82 j82_4 = some r → GoM G l (2 + (dp + 1)) (TmR G (some (.int r)) 97 S 0 0) mX1_mostStaying 82 [(0, .ref a0), (1, .int a1), (2, .int a2), (3, .int a3), (4, .int j82_4), (5, .int l25_5)] [] S := by
                intro j82_4 hf
                rw [eK82] at hf
                refine Go.inc 5 85 (1 : Int32) [(5, .int (l25_5 + (1 : Int32))), (0, .ref a0), (1, .int a1), (2, .int a2), (3, .int a3), (4, .int j82_4)] rfl dX1_mostStaying_82 rfl ci_1 (by decide) rfl ?_
                refine Go.goto 25 dX1_mostStaying_85 rfl ?_
                exact Go.sub [1, 2, 3, 4, 5, 0] [(0, .ref a0), (1, .int a1), (2, .int a2), (3, .int a3), (4, .int j82_4), (5, .int (l25_5 + (1 : Int32)))] rfl (ih j82_4 (l25_5 + (1 : Int32)) hf)
              clear eK82
              refine Go.if_eq 82 41 rfl dX1_mostStaying_38 rfl (fun hc => ?_) (fun hc => ?_)
              · replace hf := f_if hf hc
                exact J82 l25_4 hf
              · replace hf := f_el hf hc
                refine Go.aload_n 0 42 rfl dX1_mostStaying_41 rfl ?_
                refine Go.iload_n 1 43 rfl dX1_mostStaying_42 rfl ?_
                refine Go.iconst (1 : Int32) 44 rfl dX1_mostStaying_43 ci_1 ?_
                refine Go.iadd 45 rfl dX1_mostStaying_44 ?_
                refine Go.iload_n 2 46 rfl dX1_mostStaying_45 rfl ?_
                refine Go.iload_n 3 47 rfl dX1_mostStaying_46 rfl ?_
                refine Go.iconst (1 : Int32) 48 rfl dX1_mostStaying_47 ci_1 ?_
                refine Go.iload 5 50 rfl dX1_mostStaying_48 rfl ?_
                refine Go.ishl 51 rfl dX1_mostStaying_50 ?_
                refine Go.iconst (-1 : Int32) 52 rfl dX1_mostStaying_51 ci_m1 ?_
                refine Go.ixor 53 rfl dX1_mostStaying_52 ?_
                refine Go.iand 54 rfl dX1_mostStaying_53 ?_
                obtain ⟨r54, er54, hf⟩ := f_bnd hf
                refine Go.cS 57 [.ref a0, .int (a1 + (1 : Int32)), .int a2, .int (a3 &&& (((1 : Int32) <<< (l25_5 &&& 31)) ^^^ (-1 : Int32)))] [] (hself S a0 (a1 + (1 : Int32)) a2 (a3 &&& (((1 : Int32) <<< (l25_5 &&& 31)) ^^^ (-1 : Int32))) r54 ha0 er54) rfl dX1_mostStaying_54 cx_X1_151 (by omega) (by decide) rfl (Nat.le_of_ble_eq_true rfl) ?_
                refine Go.istore 59 [(6, .int r54), (0, .ref a0), (1, .int a1), (2, .int a2), (3, .int a3), (4, .int l25_4), (5, .int l25_5)] rfl dX1_mostStaying_57 (by decide) rfl ?_
                refine Go.iload 0 61 rfl dX1_mostStaying_59 rfl ?_
                refine Go.iconst (-1 : Int32) 62 rfl dX1_mostStaying_61 ci_m1 ?_
                refine Go.icmp_eq 82 65 rfl dX1_mostStaying_62 rfl (fun hc => ?_) (fun hc => ?_)
                · replace hf := f_if hf hc
                  exact Go.sub [1, 2, 3, 4, 5, 6] [(0, .ref a0), (1, .int a1), (2, .int a2), (3, .int a3), (4, .int l25_4), (5, .int l25_5)] rfl (J82 l25_4 hf)
                · replace hf := f_el hf hc
                  refine Go.iload 5 67 rfl dX1_mostStaying_65 rfl ?_
                  refine Go.iload 0 69 rfl dX1_mostStaying_67 rfl ?_
                  refine Go.aload_n 1 70 rfl dX1_mostStaying_69 rfl ?_
                  refine Go.iload 6 72 rfl dX1_mostStaying_70 rfl ?_
                  refine Go.iload_n 2 73 rfl dX1_mostStaying_72 rfl ?_
                  obtain ⟨r73, er73, hf⟩ := f_bnd hf
                  refine Go.cV 76 [.int l25_5, .int a1] [.int r54, .int l25_4] (C_X1_cardsOfOn G l n S a0 l25_5 a1 r73 ha0 er73) rfl dX1_mostStaying_73 cv_X1_145 ha0 (by omega) (by decide) rfl (Nat.le_of_ble_eq_true rfl) ?_
                  refine Go.iadd 77 rfl dX1_mostStaying_76 ?_
                  refine Go.mmax 80 rfl dX1_mostStaying_77 (am_mem 372 (by decide +kernel) rfl) (am_mem 237 (by decide +kernel) rfl) (am_mem 59 (by decide +kernel) rfl) (am_mem 238 (by decide +kernel) rfl) (Nat.le_of_ble_eq_true rfl) ?_
                  obtain ⟨v80, ev80, hf⟩ := f_nm hf
                  refine Go.topi v80 ev80 ?_
                  refine Go.istore 82 [(4, .int v80), (6, .int r54), (0, .ref a0), (1, .int a1), (2, .int a2), (3, .int a3), (5, .int l25_5)] rfl dX1_mostStaying_80 (by decide) rfl ?_
                  exact Go.sub [2, 3, 4, 5, 0, 6] [(0, .ref a0), (1, .int a1), (2, .int a2), (3, .int a3), (4, .int v80), (5, .int l25_5)] rfl (J82 v80 hf)
        exact Go.sub [2, 3, 4, 5, 1, 0] [(0, .ref a0), (1, .int a1), (2, .int a2), (3, .int a3), (4, .int (-1 : Int32)), (5, .int (0 : Int32))] rfl (L25 n (-1 : Int32) (0 : Int32) hf)
      · replace hf := f_el hf hc
        refine Go.iconst (0 : Int32) 18 rfl dX1_mostStaying_17 ci_0 ?_
        exact Go.ir rfl dX1_mostStaying_18 hf
    · replace hf := f_el hf hc
      refine Go.iconst (-1 : Int32) 11 rfl dX1_mostStaying_10 ci_m1 ?_
      exact Go.ir rfl dX1_mostStaying_11 hf
theorem C_X1_mostStaying (G : aG) (l : Launch) (n : Nat) (S : aSt) (a0 : Nat) (a1 : Int32) (a2 : Int32) (a3 : Int32) (r : Int32) (ha0 : isT a0 0 = true) (hf : F_X1_mostStaying n S a0 a1 a2 a3 = some r) : Ctr G l yX1_mostStaying mX1_mostStaying (rmM 9) 97 97 S [.ref a0, .int a1, .int a2, .int a3] (some (.int r)) S := C_X1_mostStaying_D G l n 7 (by decide) S a0 a1 a2 a3 r ha0 hf
theorem dX1_fewestMoved_0 : decode cX1_fewestMoved 0 = .ok (.iconst 0, 1) := by decide +kernel
theorem dX1_fewestMoved_1 : decode cX1_fewestMoved 1 = .ok (.istore_n 1, 1) := by decide +kernel
theorem dX1_fewestMoved_2 : decode cX1_fewestMoved 2 = .ok (.iconst 0, 1) := by decide +kernel
theorem dX1_fewestMoved_3 : decode cX1_fewestMoved 3 = .ok (.istore_n 2, 1) := by decide +kernel
theorem dX1_fewestMoved_4 : decode cX1_fewestMoved 4 = .ok (.iload_n 2, 1) := by decide +kernel
theorem dX1_fewestMoved_5 : decode cX1_fewestMoved 5 = .ok (.aload_n 0, 1) := by decide +kernel
theorem dX1_fewestMoved_6 : decode cX1_fewestMoved 6 = .ok (.getfield 37, 3) := by decide +kernel
theorem dX1_fewestMoved_9 : decode cX1_fewestMoved 9 = .ok (.if_icmp .ge 20, 3) := by decide +kernel
theorem dX1_fewestMoved_12 : decode cX1_fewestMoved 12 = .ok (.iload_n 1, 1) := by decide +kernel
theorem dX1_fewestMoved_13 : decode cX1_fewestMoved 13 = .ok (.iconst 1, 1) := by decide +kernel
theorem dX1_fewestMoved_14 : decode cX1_fewestMoved 14 = .ok (.aload_n 0, 1) := by decide +kernel
theorem dX1_fewestMoved_15 : decode cX1_fewestMoved 15 = .ok (.getfield 9, 3) := by decide +kernel
theorem dX1_fewestMoved_18 : decode cX1_fewestMoved 18 = .ok (.iload_n 2, 1) := by decide +kernel
theorem dX1_fewestMoved_19 : decode cX1_fewestMoved 19 = .ok (.iaload, 1) := by decide +kernel
theorem dX1_fewestMoved_20 : decode cX1_fewestMoved 20 = .ok (.ishl, 1) := by decide +kernel
theorem dX1_fewestMoved_21 : decode cX1_fewestMoved 21 = .ok (.ior, 1) := by decide +kernel
theorem dX1_fewestMoved_22 : decode cX1_fewestMoved 22 = .ok (.istore_n 1, 1) := by decide +kernel
theorem dX1_fewestMoved_23 : decode cX1_fewestMoved 23 = .ok (.iinc 2 1, 3) := by decide +kernel
theorem dX1_fewestMoved_26 : decode cX1_fewestMoved 26 = .ok (.goto (-22), 3) := by decide +kernel
theorem dX1_fewestMoved_29 : decode cX1_fewestMoved 29 = .ok (.iload_n 1, 1) := by decide +kernel
theorem dX1_fewestMoved_30 : decode cX1_fewestMoved 30 = .ok (.invokestatic 140, 3) := by decide +kernel
theorem dX1_fewestMoved_33 : decode cX1_fewestMoved 33 = .ok (.iconst 4, 1) := by decide +kernel
theorem dX1_fewestMoved_34 : decode cX1_fewestMoved 34 = .ok (.if_icmp .le 6, 3) := by decide +kernel
theorem dX1_fewestMoved_37 : decode cX1_fewestMoved 37 = .ok (.bipush (-9), 2) := by decide +kernel
theorem dX1_fewestMoved_39 : decode cX1_fewestMoved 39 = .ok (.ireturn, 1) := by decide +kernel
theorem dX1_fewestMoved_40 : decode cX1_fewestMoved 40 = .ok (.aload_n 0, 1) := by decide +kernel
theorem dX1_fewestMoved_41 : decode cX1_fewestMoved 41 = .ok (.getfield 37, 3) := by decide +kernel
theorem dX1_fewestMoved_44 : decode cX1_fewestMoved 44 = .ok (.ifCond .ne 7, 3) := by decide +kernel
theorem dX1_fewestMoved_47 : decode cX1_fewestMoved 47 = .ok (.iconst 0, 1) := by decide +kernel
theorem dX1_fewestMoved_48 : decode cX1_fewestMoved 48 = .ok (.goto 15, 3) := by decide +kernel
theorem dX1_fewestMoved_51 : decode cX1_fewestMoved 51 = .ok (.aload_n 0, 1) := by decide +kernel
theorem dX1_fewestMoved_52 : decode cX1_fewestMoved 52 = .ok (.getfield 37, 3) := by decide +kernel
theorem dX1_fewestMoved_55 : decode cX1_fewestMoved 55 = .ok (.aload_n 0, 1) := by decide +kernel
theorem dX1_fewestMoved_56 : decode cX1_fewestMoved 56 = .ok (.iconst 0, 1) := by decide +kernel
theorem dX1_fewestMoved_57 : decode cX1_fewestMoved 57 = .ok (.iload_n 1, 1) := by decide +kernel
theorem dX1_fewestMoved_58 : decode cX1_fewestMoved 58 = .ok (.iload_n 1, 1) := by decide +kernel
theorem dX1_fewestMoved_59 : decode cX1_fewestMoved 59 = .ok (.invokestatic 151, 3) := by decide +kernel
theorem dX1_fewestMoved_62 : decode cX1_fewestMoved 62 = .ok (.isub, 1) := by decide +kernel
theorem dX1_fewestMoved_63 : decode cX1_fewestMoved 63 = .ok (.ireturn, 1) := by decide +kernel
def F_X1_fewestMoved_L4 (S : aSt) (a0 : Nat) (K29 : Int32 → Option Int32) : Nat → Int32 → Int32 → Option Int32
  | 0, _, _ => none
  | fu + 1, l4_1, l4_2 =>
    if (S.1 a0 7) ≤ l4_2 then (K29 l4_1) else
    rfd (S.2.2 a0 0) 7 fun k15 =>
    grd (inb l4_2 (SH k15).2) <|
    nm (l4_1 ||| ((1 : Int32) <<< ((S.1 k15 l4_2.toNatClampNeg) &&& 31))) fun v22 =>
    F_X1_fewestMoved_L4 S a0 K29 fu v22 (l4_2 + (1 : Int32))
def F_X1_fewestMoved (n : Nat) (S : aSt) (a0 : Nat) : Option Int32 :=
jn (fun (x29_1 : Int32) => ((F_J6_bitCount_0f7a4 n S x29_1).bind fun r30 =>
if r30 ≤ (4 : Int32) then (if (S.1 a0 7) = 0 then (some (0 : Int32)) else
(F_X1_mostStaying n S a0 (0 : Int32) x29_1 x29_1).bind fun r59 =>
some ((S.1 a0 7) - r59)) else
some (-9 : Int32) : Option Int32)) fun K29 =>
F_X1_fewestMoved_L4 S a0 K29 n (0 : Int32) (0 : Int32)
set_option maxHeartbeats 4000000 in
set_option maxRecDepth 100000 in
theorem C_X1_fewestMoved (G : aG) (l : Launch) (n : Nat) (S : aSt) (a0 : Nat) (r : Int32) (ha0 : isT a0 0 = true) (hf : F_X1_fewestMoved n S a0 = some r) : Ctr G l yX1_fewestMoved mX1_fewestMoved (rmM 11) 97 97 S [.ref a0] (some (.int r)) S := by
  refine Ctr.of (by decide) rfl rfl (Nat.le_of_ble_eq_true rfl) [(0, .ref a0)] rfl ?_
  unfold F_X1_fewestMoved at hf
  refine Go.iconst (0 : Int32) 1 rfl dX1_fewestMoved_0 ci_0 ?_
  refine Go.istore_n 2 [(1, .int (0 : Int32)), (0, .ref a0)] rfl dX1_fewestMoved_1 (by decide) rfl ?_
  refine Go.iconst (0 : Int32) 3 rfl dX1_fewestMoved_2 ci_0 ?_
  refine Go.istore_n 4 [(2, .int (0 : Int32)), (1, .int (0 : Int32)), (0, .ref a0)] rfl dX1_fewestMoved_3 (by decide) rfl ?_
  obtain ⟨K29, eK29, hf⟩ := f_jn hf
  have J29 : ∀ (x29_1 : Int32), K29 x29_1 = some r → GoM G l 11 (TmR G (some (.int r)) 97 S 0 0) mX1_fewestMoved 29 [(0, .ref a0), (1, .int x29_1)] [] S := by
    intro x29_1 hf
    rw [eK29] at hf
    refine Go.iload_n 1 30 rfl dX1_fewestMoved_29 rfl ?_
    obtain ⟨r30, er30, hf⟩ := f_bnd hf
    refine Go.cS 33 [.int x29_1] [] (C_J6_bitCount_0f7a4 G l n S x29_1 r30  er30) rfl dX1_fewestMoved_30 cx_X1_140 (by decide) (by decide) rfl (Nat.le_of_ble_eq_true rfl) ?_
    refine Go.iconst (4 : Int32) 34 rfl dX1_fewestMoved_33 ci_4 ?_
    refine Go.icmp_le 40 37 rfl dX1_fewestMoved_34 rfl (fun hc => ?_) (fun hc => ?_)
    · replace hf := f_if hf hc
      refine Go.aload_n 0 41 rfl dX1_fewestMoved_40 rfl ?_
      refine Go.getI 44 rfl dX1_fewestMoved_41 fl_X1_37 rfl (isT_lt ha0) (isT_sh ha0) ?_
      refine Go.if_ne 51 47 rfl dX1_fewestMoved_44 rfl (fun hc => ?_) (fun hc => ?_)
      · replace hf := f_el hf hc
        refine Go.aload_n 0 52 rfl dX1_fewestMoved_51 rfl ?_
        refine Go.getI 55 rfl dX1_fewestMoved_52 fl_X1_37 rfl (isT_lt ha0) (isT_sh ha0) ?_
        refine Go.aload_n 0 56 rfl dX1_fewestMoved_55 rfl ?_
        refine Go.iconst (0 : Int32) 57 rfl dX1_fewestMoved_56 ci_0 ?_
        refine Go.iload_n 1 58 rfl dX1_fewestMoved_57 rfl ?_
        refine Go.iload_n 1 59 rfl dX1_fewestMoved_58 rfl ?_
        obtain ⟨r59, er59, hf⟩ := f_bnd hf
        refine Go.cS 62 [.ref a0, .int (0 : Int32), .int x29_1, .int x29_1] [.int (S.1 a0 7)] (C_X1_mostStaying G l n S a0 (0 : Int32) x29_1 x29_1 r59 ha0 er59) rfl dX1_fewestMoved_59 cx_X1_151 (by decide) (by decide) rfl (Nat.le_of_ble_eq_true rfl) ?_
        refine Go.isub 63 rfl dX1_fewestMoved_62 ?_
        exact Go.ir rfl dX1_fewestMoved_63 hf
      · replace hf := f_if hf hc
        refine Go.iconst (0 : Int32) 48 rfl dX1_fewestMoved_47 ci_0 ?_
        refine Go.goto 63 dX1_fewestMoved_48 rfl ?_
        exact Go.ir rfl dX1_fewestMoved_63 hf
    · replace hf := f_el hf hc
      refine Go.bipush (-9 : Int32) 39 rfl dX1_fewestMoved_37 cb_m9 ?_
      exact Go.ir rfl dX1_fewestMoved_39 hf
  clear eK29
  have L4 : ∀ (fu : Nat) (l4_1 : Int32) (l4_2 : Int32), F_X1_fewestMoved_L4 S a0 K29 fu l4_1 l4_2 = some r → GoM G l 11 (TmR G (some (.int r)) 97 S 0 0) mX1_fewestMoved 4 [(0, .ref a0), (1, .int l4_1), (2, .int l4_2)] [] S := by
    intro fu
    induction fu with
    | zero => intro l4_1 l4_2 hf; rw [F_X1_fewestMoved_L4] at hf; cases hf
    | succ fu ih =>
      intro l4_1 l4_2 hf
      rw [F_X1_fewestMoved_L4] at hf
      refine Go.iload_n 2 5 rfl dX1_fewestMoved_4 rfl ?_
      refine Go.aload_n 0 6 rfl dX1_fewestMoved_5 rfl ?_
      refine Go.getI 9 rfl dX1_fewestMoved_6 fl_X1_37 rfl (isT_lt ha0) (isT_sh ha0) ?_
      refine Go.icmp_ge 29 12 rfl dX1_fewestMoved_9 rfl (fun hc => ?_) (fun hc => ?_)
      · replace hf := f_if hf hc
        exact Go.sub [0, 1] [(0, .ref a0), (1, .int l4_1)] rfl (J29 l4_1 hf)
      · replace hf := f_el hf hc
        refine Go.iload_n 1 13 rfl dX1_fewestMoved_12 rfl ?_
        refine Go.iconst (1 : Int32) 14 rfl dX1_fewestMoved_13 ci_1 ?_
        refine Go.aload_n 0 15 rfl dX1_fewestMoved_14 rfl ?_
        obtain ⟨k15, qk15, hk15, hf⟩ := f_rfd hf
        refine Go.getR 18 rfl dX1_fewestMoved_15 fl_X1_9 rfl (isT_lt ha0) (isT_sh ha0) qk15 ?_
        refine Go.iload_n 2 19 rfl dX1_fewestMoved_18 rfl ?_
        obtain ⟨g19, hf⟩ := f_grd hf
        refine Go.iald 20 rfl dX1_fewestMoved_19 (isT_lt hk15) (isT_sh hk15) g19 ?_
        refine Go.ishl 21 rfl dX1_fewestMoved_20 ?_
        refine Go.ior 22 rfl dX1_fewestMoved_21 ?_
        obtain ⟨v22, ev22, hf⟩ := f_nm hf
        refine Go.topi v22 ev22 ?_
        refine Go.istore_n 23 [(1, .int v22), (0, .ref a0), (2, .int l4_2)] rfl dX1_fewestMoved_22 (by decide) rfl ?_
        refine Go.inc 2 26 (1 : Int32) [(2, .int (l4_2 + (1 : Int32))), (1, .int v22), (0, .ref a0)] rfl dX1_fewestMoved_23 rfl ci_1 (by decide) rfl ?_
        refine Go.goto 4 dX1_fewestMoved_26 rfl ?_
        exact Go.sub [2, 1, 0] [(0, .ref a0), (1, .int v22), (2, .int (l4_2 + (1 : Int32)))] rfl (ih v22 (l4_2 + (1 : Int32)) hf)
  exact Go.sub [2, 1, 0] [(0, .ref a0), (1, .int (0 : Int32)), (2, .int (0 : Int32))] rfl (L4 n (0 : Int32) (0 : Int32) hf)
theorem dX1_layByAge_0 : decode cX1_layByAge 0 = .ok (.aload_n 1, 1) := by decide +kernel
theorem dX1_layByAge_1 : decode cX1_layByAge 1 = .ok (.aload_n 0, 1) := by decide +kernel
theorem dX1_layByAge_2 : decode cX1_layByAge 2 = .ok (.getfield 37, 3) := by decide +kernel
theorem dX1_layByAge_5 : decode cX1_layByAge 5 = .ok (.iconst 0, 1) := by decide +kernel
theorem dX1_layByAge_6 : decode cX1_layByAge 6 = .ok (.invokevirtual 155, 3) := by decide +kernel
theorem dX1_layByAge_9 : decode cX1_layByAge 9 = .ok (.iconst 0, 1) := by decide +kernel
theorem dX1_layByAge_10 : decode cX1_layByAge 10 = .ok (.istore_n 2, 1) := by decide +kernel
theorem dX1_layByAge_11 : decode cX1_layByAge 11 = .ok (.bipush 9, 2) := by decide +kernel
theorem dX1_layByAge_13 : decode cX1_layByAge 13 = .ok (.istore_n 3, 1) := by decide +kernel
theorem dX1_layByAge_14 : decode cX1_layByAge 14 = .ok (.iload_n 3, 1) := by decide +kernel
theorem dX1_layByAge_15 : decode cX1_layByAge 15 = .ok (.ifCond .lt 51, 3) := by decide +kernel
theorem dX1_layByAge_18 : decode cX1_layByAge 18 = .ok (.iconst 0, 1) := by decide +kernel
theorem dX1_layByAge_19 : decode cX1_layByAge 19 = .ok (.istore 4, 2) := by decide +kernel
theorem dX1_layByAge_21 : decode cX1_layByAge 21 = .ok (.iload 4, 2) := by decide +kernel
theorem dX1_layByAge_23 : decode cX1_layByAge 23 = .ok (.aload_n 0, 1) := by decide +kernel
theorem dX1_layByAge_24 : decode cX1_layByAge 24 = .ok (.getfield 37, 3) := by decide +kernel
theorem dX1_layByAge_27 : decode cX1_layByAge 27 = .ok (.if_icmp .ge 33, 3) := by decide +kernel
theorem dX1_layByAge_30 : decode cX1_layByAge 30 = .ok (.aload_n 0, 1) := by decide +kernel
theorem dX1_layByAge_31 : decode cX1_layByAge 31 = .ok (.getfield 33, 3) := by decide +kernel
theorem dX1_layByAge_34 : decode cX1_layByAge 34 = .ok (.getfield 82, 3) := by decide +kernel
theorem dX1_layByAge_37 : decode cX1_layByAge 37 = .ok (.iload 4, 2) := by decide +kernel
theorem dX1_layByAge_39 : decode cX1_layByAge 39 = .ok (.iaload, 1) := by decide +kernel
theorem dX1_layByAge_40 : decode cX1_layByAge 40 = .ok (.iload_n 3, 1) := by decide +kernel
theorem dX1_layByAge_41 : decode cX1_layByAge 41 = .ok (.if_icmp .ne 13, 3) := by decide +kernel
theorem dX1_layByAge_44 : decode cX1_layByAge 44 = .ok (.aload_n 1, 1) := by decide +kernel
theorem dX1_layByAge_45 : decode cX1_layByAge 45 = .ok (.iload_n 2, 1) := by decide +kernel
theorem dX1_layByAge_46 : decode cX1_layByAge 46 = .ok (.iload 4, 2) := by decide +kernel
theorem dX1_layByAge_48 : decode cX1_layByAge 48 = .ok (.invokevirtual 158, 3) := by decide +kernel
theorem dX1_layByAge_51 : decode cX1_layByAge 51 = .ok (.iinc 2 1, 3) := by decide +kernel
theorem dX1_layByAge_54 : decode cX1_layByAge 54 = .ok (.iinc 4 1, 3) := by decide +kernel
theorem dX1_layByAge_57 : decode cX1_layByAge 57 = .ok (.goto (-36), 3) := by decide +kernel
theorem dX1_layByAge_60 : decode cX1_layByAge 60 = .ok (.iinc 3 (-1), 3) := by decide +kernel
theorem dX1_layByAge_63 : decode cX1_layByAge 63 = .ok (.goto (-49), 3) := by decide +kernel
theorem dX1_layByAge_66 : decode cX1_layByAge 66 = .ok (.return_, 1) := by decide +kernel
def F_X1_layByAge_L21 (n : Nat) (a0 : Nat) (a1 : Nat) (l14_3 : Int32) (K60 : Int32 → aSt → Option aSt) : Nat → Int32 → Int32 → aSt → Option aSt
  | 0, _, _, _ => none
  | fu + 1, l21_2, l21_4, l21S =>
    if (l21S.1 a0 7) ≤ l21_4 then (K60 l21_2 l21S) else
    rfd (l21S.2.2 a0 6) 4 fun k31 =>
    rfd (l21S.2.2 k31 1) 7 fun k34 =>
    grd (inb l21_4 (SH k34).2) <|
    jn (fun (j54_2 : Int32) (j54S : aSt) => (F_X1_layByAge_L21 n a0 a1 l14_3 K60 fu j54_2 (l21_4 + (1 : Int32)) j54S : Option aSt)) fun K54 =>
    if (l21S.1 k34 l21_4.toNatClampNeg) = l14_3 then ((F_X4_layAt n l21S a1 l21_2 l21_4).bind fun S48 =>
    K54 (l21_2 + (1 : Int32)) S48) else
    K54 l21_2 l21S
def F_X1_layByAge_L14 (n : Nat) (a0 : Nat) (a1 : Nat) (K66 : aSt → Option aSt) : Nat → Int32 → Int32 → aSt → Option aSt
  | 0, _, _, _ => none
  | fu + 1, l14_2, l14_3, l14S =>
    if l14_3 < 0 then (K66 l14S) else
    jn (fun (x60_2 : Int32) (x60S : aSt) => (F_X1_layByAge_L14 n a0 a1 K66 fu x60_2 (l14_3 + (-1 : Int32)) x60S : Option aSt)) fun K60 =>
    F_X1_layByAge_L21 n a0 a1 l14_3 K60 n l14_2 (0 : Int32) l14S
def F_X1_layByAge (n : Nat) (S : aSt) (a0 : Nat) (a1 : Nat) : Option aSt :=
(F_X4_begin n S a1 (S.1 a0 7) (0 : Int32)).bind fun S6 =>
jn (fun (x66S : aSt) => (some x66S : Option aSt)) fun K66 =>
F_X1_layByAge_L14 n a0 a1 K66 n (0 : Int32) (9 : Int32) S6
set_option maxHeartbeats 4000000 in
set_option maxRecDepth 100000 in
theorem C_X1_layByAge (G : aG) (l : Launch) (n : Nat) (S : aSt) (a0 : Nat) (a1 : Nat) (Sr : aSt) (ha0 : isT a0 0 = true) (ha1 : isT a1 3 = true) (hf : F_X1_layByAge n S a0 a1 = some Sr) : Ctr G l yX1_layByAge mX1_layByAge (rmM 3) 97 97 S [.ref a0, .ref a1] none Sr := by
  refine Ctr.of (by decide) rfl rfl (Nat.le_of_ble_eq_true rfl) [(0, .ref a0), (1, .ref a1)] rfl ?_
  unfold F_X1_layByAge at hf
  refine Go.aload_n 1 1 rfl dX1_layByAge_0 rfl ?_
  refine Go.aload_n 0 2 rfl dX1_layByAge_1 rfl ?_
  refine Go.getI 5 rfl dX1_layByAge_2 fl_X1_37 rfl (isT_lt ha0) (isT_sh ha0) ?_
  refine Go.iconst (0 : Int32) 6 rfl dX1_layByAge_5 ci_0 ?_
  obtain ⟨S6, eS6, hf⟩ := f_bnd hf
  refine Go.cVv 9 [.int (S.1 a0 7), .int (0 : Int32)] [] (C_X4_begin G l n S a1 (S.1 a0 7) (0 : Int32) S6 ha1 eS6) rfl dX1_layByAge_6 cv_X1_155 ha1 (by decide) (by decide) rfl (Nat.le_of_ble_eq_true rfl) ?_
  refine Go.iconst (0 : Int32) 10 rfl dX1_layByAge_9 ci_0 ?_
  refine Go.istore_n 11 [(2, .int (0 : Int32)), (0, .ref a0), (1, .ref a1)] rfl dX1_layByAge_10 (by decide) rfl ?_
  refine Go.bipush (9 : Int32) 13 rfl dX1_layByAge_11 cb_9 ?_
  refine Go.istore_n 14 [(3, .int (9 : Int32)), (2, .int (0 : Int32)), (0, .ref a0), (1, .ref a1)] rfl dX1_layByAge_13 (by decide) rfl ?_
  obtain ⟨K66, eK66, hf⟩ := f_jn hf
  have J66 : ∀ (x66S : aSt), K66 x66S = some Sr → GoM G l 3 (TmR G none 97 Sr 0 0) mX1_layByAge 66 [] [] x66S := by
    intro x66S hf
    rw [eK66] at hf
    exact Go.vr rfl dX1_layByAge_66 hf
  clear eK66
  have L14 : ∀ (fu : Nat) (l14_2 : Int32) (l14_3 : Int32) (l14S : aSt), F_X1_layByAge_L14 n a0 a1 K66 fu l14_2 l14_3 l14S = some Sr → GoM G l 3 (TmR G none 97 Sr 0 0) mX1_layByAge 14 [(0, .ref a0), (1, .ref a1), (2, .int l14_2), (3, .int l14_3)] [] l14S := by
    intro fu
    induction fu with
    | zero => intro l14_2 l14_3 l14S hf; rw [F_X1_layByAge_L14] at hf; cases hf
    | succ fu ih =>
      intro l14_2 l14_3 l14S hf
      rw [F_X1_layByAge_L14] at hf
      refine Go.iload_n 3 15 rfl dX1_layByAge_14 rfl ?_
      refine Go.if_lt 66 18 rfl dX1_layByAge_15 rfl (fun hc => ?_) (fun hc => ?_)
      · replace hf := f_if hf hc
        exact Go.sub [] [] rfl (J66 l14S hf)
      · replace hf := f_el hf hc
        refine Go.iconst (0 : Int32) 19 rfl dX1_layByAge_18 ci_0 ?_
        refine Go.istore 21 [(4, .int (0 : Int32)), (0, .ref a0), (1, .ref a1), (2, .int l14_2), (3, .int l14_3)] rfl dX1_layByAge_19 (by decide) rfl ?_
        obtain ⟨K60, eK60, hf⟩ := f_jn hf
        have J60 : ∀ (x60_2 : Int32) (x60S : aSt), K60 x60_2 x60S = some Sr → GoM G l 3 (TmR G none 97 Sr 0 0) mX1_layByAge 60 [(0, .ref a0), (1, .ref a1), (2, .int x60_2), (3, .int l14_3)] [] x60S := by
          intro x60_2 x60S hf
          rw [eK60] at hf
          refine Go.inc 3 63 (-1 : Int32) [(3, .int (l14_3 + (-1 : Int32))), (0, .ref a0), (1, .ref a1), (2, .int x60_2)] rfl dX1_layByAge_60 rfl ci_m1 (by decide) rfl ?_
          refine Go.goto 14 dX1_layByAge_63 rfl ?_
          exact Go.sub [1, 2, 3, 0] [(0, .ref a0), (1, .ref a1), (2, .int x60_2), (3, .int (l14_3 + (-1 : Int32)))] rfl (ih x60_2 (l14_3 + (-1 : Int32)) x60S hf)
        clear eK60
        have L21 : ∀ (fu : Nat) (l21_2 : Int32) (l21_4 : Int32) (l21S : aSt), F_X1_layByAge_L21 n a0 a1 l14_3 K60 fu l21_2 l21_4 l21S = some Sr → GoM G l 3 (TmR G none 97 Sr 0 0) mX1_layByAge 21 [(0, .ref a0), (1, .ref a1), (2, .int l21_2), (3, .int l14_3), (4, .int l21_4)] [] l21S := by
          intro fu
          induction fu with
          | zero => intro l21_2 l21_4 l21S hf; rw [F_X1_layByAge_L21] at hf; cases hf
          | succ fu ih =>
            intro l21_2 l21_4 l21S hf
            rw [F_X1_layByAge_L21] at hf
            refine Go.iload 4 23 rfl dX1_layByAge_21 rfl ?_
            refine Go.aload_n 0 24 rfl dX1_layByAge_23 rfl ?_
            refine Go.getI 27 rfl dX1_layByAge_24 fl_X1_37 rfl (isT_lt ha0) (isT_sh ha0) ?_
            refine Go.icmp_ge 60 30 rfl dX1_layByAge_27 rfl (fun hc => ?_) (fun hc => ?_)
            · replace hf := f_if hf hc
              exact Go.sub [0, 1, 2, 3] [(0, .ref a0), (1, .ref a1), (2, .int l21_2), (3, .int l14_3)] rfl (J60 l21_2 l21S hf)
            · replace hf := f_el hf hc
              refine Go.aload_n 0 31 rfl dX1_layByAge_30 rfl ?_
              obtain ⟨k31, qk31, hk31, hf⟩ := f_rfd hf
              refine Go.getR 34 rfl dX1_layByAge_31 fl_X1_33 rfl (isT_lt ha0) (isT_sh ha0) qk31 ?_
              obtain ⟨k34, qk34, hk34, hf⟩ := f_rfd hf
              refine Go.getR 37 rfl dX1_layByAge_34 fl_X1_82 rfl (isT_lt hk31) (isT_sh hk31) qk34 ?_
              refine Go.iload 4 39 rfl dX1_layByAge_37 rfl ?_
              obtain ⟨g39, hf⟩ := f_grd hf
              refine Go.iald 40 rfl dX1_layByAge_39 (isT_lt hk34) (isT_sh hk34) g39 ?_
              refine Go.iload_n 3 41 rfl dX1_layByAge_40 rfl ?_
              obtain ⟨K54, eK54, hf⟩ := f_jn hf
              have J54 : ∀ (j54_2 : Int32) (j54S : aSt), K54 j54_2 j54S = some Sr → GoM G l 3 (TmR G none 97 Sr 0 0) mX1_layByAge 54 [(0, .ref a0), (1, .ref a1), (2, .int j54_2), (3, .int l14_3), (4, .int l21_4)] [] j54S := by
                intro j54_2 j54S hf
                rw [eK54] at hf
                refine Go.inc 4 57 (1 : Int32) [(4, .int (l21_4 + (1 : Int32))), (0, .ref a0), (1, .ref a1), (2, .int j54_2), (3, .int l14_3)] rfl dX1_layByAge_54 rfl ci_1 (by decide) rfl ?_
                refine Go.goto 21 dX1_layByAge_57 rfl ?_
                exact Go.sub [1, 2, 3, 4, 0] [(0, .ref a0), (1, .ref a1), (2, .int j54_2), (3, .int l14_3), (4, .int (l21_4 + (1 : Int32)))] rfl (ih j54_2 (l21_4 + (1 : Int32)) j54S hf)
              clear eK54
              refine Go.icmp_ne 54 44 rfl dX1_layByAge_41 rfl (fun hc => ?_) (fun hc => ?_)
              · replace hf := f_el hf hc
                exact J54 l21_2 l21S hf
              · replace hf := f_if hf hc
                refine Go.aload_n 1 45 rfl dX1_layByAge_44 rfl ?_
                refine Go.iload_n 2 46 rfl dX1_layByAge_45 rfl ?_
                refine Go.iload 4 48 rfl dX1_layByAge_46 rfl ?_
                obtain ⟨S48, eS48, hf⟩ := f_bnd hf
                refine Go.cVv 51 [.int l21_2, .int l21_4] [] (C_X4_layAt G l n l21S a1 l21_2 l21_4 S48 ha1 eS48) rfl dX1_layByAge_48 cv_X1_158 ha1 (by decide) (by decide) rfl (Nat.le_of_ble_eq_true rfl) ?_
                refine Go.inc 2 54 (1 : Int32) [(2, .int (l21_2 + (1 : Int32))), (0, .ref a0), (1, .ref a1), (3, .int l14_3), (4, .int l21_4)] rfl dX1_layByAge_51 rfl ci_1 (by decide) rfl ?_
                exact Go.sub [1, 2, 0, 3, 4] [(0, .ref a0), (1, .ref a1), (2, .int (l21_2 + (1 : Int32))), (3, .int l14_3), (4, .int l21_4)] rfl (J54 (l21_2 + (1 : Int32)) S48 hf)
        exact Go.sub [1, 2, 3, 4, 0] [(0, .ref a0), (1, .ref a1), (2, .int l14_2), (3, .int l14_3), (4, .int (0 : Int32))] rfl (L21 n l14_2 (0 : Int32) l14S hf)
  exact Go.sub [2, 3, 1, 0] [(0, .ref a0), (1, .ref a1), (2, .int (0 : Int32)), (3, .int (9 : Int32))] rfl (L14 n (0 : Int32) (9 : Int32) S6 hf)
theorem dX1_cardByLot_0 : decode cX1_cardByLot 0 = .ok (.aload_n 0, 1) := by decide +kernel
theorem dX1_cardByLot_1 : decode cX1_cardByLot 1 = .ok (.iload_n 1, 1) := by decide +kernel
theorem dX1_cardByLot_2 : decode cX1_cardByLot 2 = .ok (.invokevirtual 101, 3) := by decide +kernel
theorem dX1_cardByLot_5 : decode cX1_cardByLot 5 = .ok (.ifCond .eq 16, 3) := by decide +kernel
theorem dX1_cardByLot_8 : decode cX1_cardByLot 8 = .ok (.aload_n 0, 1) := by decide +kernel
theorem dX1_cardByLot_9 : decode cX1_cardByLot 9 = .ok (.iload_n 1, 1) := by decide +kernel
theorem dX1_cardByLot_10 : decode cX1_cardByLot 10 = .ok (.invokevirtual 161, 3) := by decide +kernel
theorem dX1_cardByLot_13 : decode cX1_cardByLot 13 = .ok (.aload_n 0, 1) := by decide +kernel
theorem dX1_cardByLot_14 : decode cX1_cardByLot 14 = .ok (.invokevirtual 164, 3) := by decide +kernel
theorem dX1_cardByLot_17 : decode cX1_cardByLot 17 = .ok (.iand, 1) := by decide +kernel
theorem dX1_cardByLot_18 : decode cX1_cardByLot 18 = .ok (.goto 4, 3) := by decide +kernel
theorem dX1_cardByLot_21 : decode cX1_cardByLot 21 = .ok (.iconst 0, 1) := by decide +kernel
theorem dX1_cardByLot_22 : decode cX1_cardByLot 22 = .ok (.istore 4, 2) := by decide +kernel
theorem dX1_cardByLot_24 : decode cX1_cardByLot 24 = .ok (.iload 4, 2) := by decide +kernel
theorem dX1_cardByLot_26 : decode cX1_cardByLot 26 = .ok (.invokestatic 140, 3) := by decide +kernel
theorem dX1_cardByLot_29 : decode cX1_cardByLot 29 = .ok (.istore 5, 2) := by decide +kernel
theorem dX1_cardByLot_31 : decode cX1_cardByLot 31 = .ok (.iload 5, 2) := by decide +kernel
theorem dX1_cardByLot_33 : decode cX1_cardByLot 33 = .ok (.ifCond .ne 6, 3) := by decide +kernel
theorem dX1_cardByLot_36 : decode cX1_cardByLot 36 = .ok (.bipush (-9), 2) := by decide +kernel
theorem dX1_cardByLot_38 : decode cX1_cardByLot 38 = .ok (.ireturn, 1) := by decide +kernel
theorem dX1_cardByLot_39 : decode cX1_cardByLot 39 = .ok (.lload_n 2, 1) := by decide +kernel
theorem dX1_cardByLot_40 : decode cX1_cardByLot 40 = .ok (.iload 5, 2) := by decide +kernel
theorem dX1_cardByLot_42 : decode cX1_cardByLot 42 = .ok (.i2l, 1) := by decide +kernel
theorem dX1_cardByLot_43 : decode cX1_cardByLot 43 = .ok (.lrem, 1) := by decide +kernel
theorem dX1_cardByLot_44 : decode cX1_cardByLot 44 = .ok (.lstore 6, 2) := by decide +kernel
theorem dX1_cardByLot_46 : decode cX1_cardByLot 46 = .ok (.iconst 0, 1) := by decide +kernel
theorem dX1_cardByLot_47 : decode cX1_cardByLot 47 = .ok (.istore 8, 2) := by decide +kernel
theorem dX1_cardByLot_49 : decode cX1_cardByLot 49 = .ok (.iload 8, 2) := by decide +kernel
theorem dX1_cardByLot_51 : decode cX1_cardByLot 51 = .ok (.aload_n 0, 1) := by decide +kernel
theorem dX1_cardByLot_52 : decode cX1_cardByLot 52 = .ok (.getfield 37, 3) := by decide +kernel
theorem dX1_cardByLot_55 : decode cX1_cardByLot 55 = .ok (.if_icmp .ge 35, 3) := by decide +kernel
theorem dX1_cardByLot_58 : decode cX1_cardByLot 58 = .ok (.iload 4, 2) := by decide +kernel
theorem dX1_cardByLot_60 : decode cX1_cardByLot 60 = .ok (.iconst 1, 1) := by decide +kernel
theorem dX1_cardByLot_61 : decode cX1_cardByLot 61 = .ok (.iload 8, 2) := by decide +kernel
theorem dX1_cardByLot_63 : decode cX1_cardByLot 63 = .ok (.ishl, 1) := by decide +kernel
theorem dX1_cardByLot_64 : decode cX1_cardByLot 64 = .ok (.iand, 1) := by decide +kernel
theorem dX1_cardByLot_65 : decode cX1_cardByLot 65 = .ok (.ifCond .eq 19, 3) := by decide +kernel
theorem dX1_cardByLot_68 : decode cX1_cardByLot 68 = .ok (.lload 6, 2) := by decide +kernel
theorem dX1_cardByLot_70 : decode cX1_cardByLot 70 = .ok (.lconst 0, 1) := by decide +kernel
theorem dX1_cardByLot_71 : decode cX1_cardByLot 71 = .ok (.lcmp, 1) := by decide +kernel
theorem dX1_cardByLot_72 : decode cX1_cardByLot 72 = .ok (.ifCond .ne 6, 3) := by decide +kernel
theorem dX1_cardByLot_75 : decode cX1_cardByLot 75 = .ok (.iload 8, 2) := by decide +kernel
theorem dX1_cardByLot_77 : decode cX1_cardByLot 77 = .ok (.ireturn, 1) := by decide +kernel
theorem dX1_cardByLot_78 : decode cX1_cardByLot 78 = .ok (.lload 6, 2) := by decide +kernel
theorem dX1_cardByLot_80 : decode cX1_cardByLot 80 = .ok (.lconst 1, 1) := by decide +kernel
theorem dX1_cardByLot_81 : decode cX1_cardByLot 81 = .ok (.lsub, 1) := by decide +kernel
theorem dX1_cardByLot_82 : decode cX1_cardByLot 82 = .ok (.lstore 6, 2) := by decide +kernel
theorem dX1_cardByLot_84 : decode cX1_cardByLot 84 = .ok (.iinc 8 1, 3) := by decide +kernel
theorem dX1_cardByLot_87 : decode cX1_cardByLot 87 = .ok (.goto (-38), 3) := by decide +kernel
theorem dX1_cardByLot_90 : decode cX1_cardByLot 90 = .ok (.bipush (-9), 2) := by decide +kernel
theorem dX1_cardByLot_92 : decode cX1_cardByLot 92 = .ok (.ireturn, 1) := by decide +kernel
def F_X1_cardByLot_L49 (S : aSt) (a0 : Nat) (j22s0 : Int32) (K90 : Option Int32) : Nat → Int64 → Int32 → Option Int32
  | 0, _, _ => none
  | fu + 1, l49_6, l49_8 =>
    if (S.1 a0 7) ≤ l49_8 then (K90) else
    jn (fun (j84_6 : Int64) => (F_X1_cardByLot_L49 S a0 j22s0 K90 fu j84_6 (l49_8 + (1 : Int32)) : Option Int32)) fun K84 =>
    if (j22s0 &&& ((1 : Int32) <<< (l49_8 &&& 31))) = 0 then (K84 l49_6) else
    if (lg_cmp l49_6 (0 : Int64)) = 0 then (some l49_8) else
    nm (l49_6 - (1 : Int64)) fun v82 =>
    K84 v82
def F_X1_cardByLot (n : Nat) (S : aSt) (a0 : Nat) (a1 : Int32) (a2 : Int64) : Option Int32 :=
(F_X1_isFreeQuestion n S a0 a1).bind fun r2 =>
jn (fun (j22s0 : Int32) => ((F_J6_bitCount_0f7a4 n S j22s0).bind fun r26 =>
if r26 = 0 then (some (-9 : Int32)) else
grd (!decide (r26.toInt64 = 0)) <|
nm (a2 - a2 / r26.toInt64 * r26.toInt64) fun v44 =>
jn ((some (-9 : Int32) : Option Int32)) fun K90 =>
F_X1_cardByLot_L49 S a0 j22s0 K90 n v44 (0 : Int32) : Option Int32)) fun K22 =>
if r2 = 0 then (K22 (0 : Int32)) else
(F_X1_fittingCards n S a0 a1).bind fun r10 =>
(F_X1_freeCards n S a0).bind fun r14 =>
K22 (r10 &&& r14)
set_option maxHeartbeats 4000000 in
set_option maxRecDepth 100000 in
theorem C_X1_cardByLot (G : aG) (l : Launch) (n : Nat) (S : aSt) (a0 : Nat) (a1 : Int32) (a2 : Int64) (r : Int32) (ha0 : isT a0 0 = true) (hf : F_X1_cardByLot n S a0 a1 a2 = some r) : Ctr G l yX1_cardByLot mX1_cardByLot (rmM 5) 97 97 S [.ref a0, .int a1, .long a2] (some (.int r)) S := by
  refine Ctr.of (by decide) rfl rfl (Nat.le_of_ble_eq_true rfl) [(0, .ref a0), (1, .int a1), (2, .long a2)] rfl ?_
  unfold F_X1_cardByLot at hf
  refine Go.aload_n 0 1 rfl dX1_cardByLot_0 rfl ?_
  refine Go.iload_n 1 2 rfl dX1_cardByLot_1 rfl ?_
  obtain ⟨r2, er2, hf⟩ := f_bnd hf
  refine Go.cV 5 [.int a1] [] (C_X1_isFreeQuestion G l n S a0 a1 r2 ha0 er2) rfl dX1_cardByLot_2 cv_X1_101 ha0 (by decide) (by decide) rfl (Nat.le_of_ble_eq_true rfl) ?_
  obtain ⟨K22, eK22, hf⟩ := f_jn hf
  have J22 : ∀ (j22s0 : Int32), K22 j22s0 = some r → GoM G l 5 (TmR G (some (.int r)) 97 S 0 0) mX1_cardByLot 22 [(0, .ref a0), (2, .long a2)] [.int j22s0] S := by
    intro j22s0 hf
    rw [eK22] at hf
    refine Go.istore 24 [(4, .int j22s0), (0, .ref a0), (2, .long a2)] rfl dX1_cardByLot_22 (by decide) rfl ?_
    refine Go.iload 0 26 rfl dX1_cardByLot_24 rfl ?_
    obtain ⟨r26, er26, hf⟩ := f_bnd hf
    refine Go.cS 29 [.int j22s0] [] (C_J6_bitCount_0f7a4 G l n S j22s0 r26  er26) rfl dX1_cardByLot_26 cx_X1_140 (by decide) (by decide) rfl (Nat.le_of_ble_eq_true rfl) ?_
    refine Go.istore 31 [(5, .int r26), (4, .int j22s0), (0, .ref a0), (2, .long a2)] rfl dX1_cardByLot_29 (by decide) rfl ?_
    refine Go.iload 0 33 rfl dX1_cardByLot_31 rfl ?_
    refine Go.if_ne 39 36 rfl dX1_cardByLot_33 rfl (fun hc => ?_) (fun hc => ?_)
    · replace hf := f_el hf hc
      refine Go.lload_n 3 40 rfl dX1_cardByLot_39 rfl ?_
      refine Go.iload 0 42 rfl dX1_cardByLot_40 rfl ?_
      refine Go.i2l 43 rfl dX1_cardByLot_42 ?_
      obtain ⟨g43, hf⟩ := f_grd hf
      refine Go.lrem 44 rfl dX1_cardByLot_43 (by simpa using g43) ?_
      obtain ⟨v44, ev44, hf⟩ := f_nm hf
      refine Go.topl v44 ev44 ?_
      refine Go.lstore 46 [(6, .long v44), (5, .int r26), (4, .int j22s0), (0, .ref a0), (2, .long a2)] rfl dX1_cardByLot_44 (by decide) rfl ?_
      refine Go.iconst (0 : Int32) 47 rfl dX1_cardByLot_46 ci_0 ?_
      refine Go.istore 49 [(8, .int (0 : Int32)), (6, .long v44), (5, .int r26), (4, .int j22s0), (0, .ref a0), (2, .long a2)] rfl dX1_cardByLot_47 (by decide) rfl ?_
      obtain ⟨K90, eK90, hf⟩ := f_jn hf
      have J90 : K90 = some r → GoM G l 5 (TmR G (some (.int r)) 97 S 0 0) mX1_cardByLot 90 [] [] S := by
        intro hf
        rw [eK90] at hf
        refine Go.bipush (-9 : Int32) 92 rfl dX1_cardByLot_90 cb_m9 ?_
        exact Go.ir rfl dX1_cardByLot_92 hf
      clear eK90
      have L49 : ∀ (fu : Nat) (l49_6 : Int64) (l49_8 : Int32), F_X1_cardByLot_L49 S a0 j22s0 K90 fu l49_6 l49_8 = some r → GoM G l 5 (TmR G (some (.int r)) 97 S 0 0) mX1_cardByLot 49 [(0, .ref a0), (4, .int j22s0), (6, .long l49_6), (8, .int l49_8)] [] S := by
        intro fu
        induction fu with
        | zero => intro l49_6 l49_8 hf; rw [F_X1_cardByLot_L49] at hf; cases hf
        | succ fu ih =>
          intro l49_6 l49_8 hf
          rw [F_X1_cardByLot_L49] at hf
          refine Go.iload 3 51 rfl dX1_cardByLot_49 rfl ?_
          refine Go.aload_n 0 52 rfl dX1_cardByLot_51 rfl ?_
          refine Go.getI 55 rfl dX1_cardByLot_52 fl_X1_37 rfl (isT_lt ha0) (isT_sh ha0) ?_
          refine Go.icmp_ge 90 58 rfl dX1_cardByLot_55 rfl (fun hc => ?_) (fun hc => ?_)
          · replace hf := f_if hf hc
            exact Go.sub [] [] rfl (J90 hf)
          · replace hf := f_el hf hc
            refine Go.iload 1 60 rfl dX1_cardByLot_58 rfl ?_
            refine Go.iconst (1 : Int32) 61 rfl dX1_cardByLot_60 ci_1 ?_
            refine Go.iload 3 63 rfl dX1_cardByLot_61 rfl ?_
            refine Go.ishl 64 rfl dX1_cardByLot_63 ?_
            refine Go.iand 65 rfl dX1_cardByLot_64 ?_
            obtain ⟨K84, eK84, hf⟩ := f_jn hf
            have J84 : ∀ (j84_6 : Int64), K84 j84_6 = some r → GoM G l 5 (TmR G (some (.int r)) 97 S 0 0) mX1_cardByLot 84 [(0, .ref a0), (4, .int j22s0), (6, .long j84_6), (8, .int l49_8)] [] S := by
              intro j84_6 hf
              rw [eK84] at hf
              refine Go.inc 3 87 (1 : Int32) [(8, .int (l49_8 + (1 : Int32))), (0, .ref a0), (4, .int j22s0), (6, .long j84_6)] rfl dX1_cardByLot_84 rfl ci_1 (by decide) rfl ?_
              refine Go.goto 49 dX1_cardByLot_87 rfl ?_
              exact Go.sub [1, 2, 3, 0] [(0, .ref a0), (4, .int j22s0), (6, .long j84_6), (8, .int (l49_8 + (1 : Int32)))] rfl (ih j84_6 (l49_8 + (1 : Int32)) hf)
            clear eK84
            refine Go.if_eq 84 68 rfl dX1_cardByLot_65 rfl (fun hc => ?_) (fun hc => ?_)
            · replace hf := f_if hf hc
              exact J84 l49_6 hf
            · replace hf := f_el hf hc
              refine Go.lload 2 70 rfl dX1_cardByLot_68 rfl ?_
              refine Go.lconst (0 : Int64) 71 rfl dX1_cardByLot_70 cl_0 ?_
              refine Go.lcmp 72 rfl dX1_cardByLot_71 ?_
              refine Go.if_ne 78 75 rfl dX1_cardByLot_72 rfl (fun hc => ?_) (fun hc => ?_)
              · replace hf := f_el hf hc
                refine Go.lload 2 80 rfl dX1_cardByLot_78 rfl ?_
                refine Go.lconst (1 : Int64) 81 rfl dX1_cardByLot_80 cl_1 ?_
                refine Go.lsub 82 rfl dX1_cardByLot_81 ?_
                obtain ⟨v82, ev82, hf⟩ := f_nm hf
                refine Go.topl v82 ev82 ?_
                refine Go.lstore 84 [(6, .long v82), (0, .ref a0), (4, .int j22s0), (8, .int l49_8)] rfl dX1_cardByLot_82 (by decide) rfl ?_
                exact Go.sub [1, 2, 0, 3] [(0, .ref a0), (4, .int j22s0), (6, .long v82), (8, .int l49_8)] rfl (J84 v82 hf)
              · replace hf := f_if hf hc
                refine Go.iload 3 77 rfl dX1_cardByLot_75 rfl ?_
                exact Go.ir rfl dX1_cardByLot_77 hf
      exact Go.sub [4, 3, 1, 0] [(0, .ref a0), (4, .int j22s0), (6, .long v44), (8, .int (0 : Int32))] rfl (L49 n v44 (0 : Int32) hf)
    · replace hf := f_if hf hc
      refine Go.bipush (-9 : Int32) 38 rfl dX1_cardByLot_36 cb_m9 ?_
      exact Go.ir rfl dX1_cardByLot_38 hf
  clear eK22
  refine Go.if_eq 21 8 rfl dX1_cardByLot_5 rfl (fun hc => ?_) (fun hc => ?_)
  · replace hf := f_if hf hc
    refine Go.iconst (0 : Int32) 22 rfl dX1_cardByLot_21 ci_0 ?_
    exact Go.sub [0, 2] [(0, .ref a0), (2, .long a2)] rfl (J22 (0 : Int32) hf)
  · replace hf := f_el hf hc
    refine Go.aload_n 0 9 rfl dX1_cardByLot_8 rfl ?_
    refine Go.iload_n 1 10 rfl dX1_cardByLot_9 rfl ?_
    obtain ⟨r10, er10, hf⟩ := f_bnd hf
    refine Go.cV 13 [.int a1] [] (C_X1_fittingCards G l n S a0 a1 r10 ha0 er10) rfl dX1_cardByLot_10 cv_X1_161 ha0 (by decide) (by decide) rfl (Nat.le_of_ble_eq_true rfl) ?_
    refine Go.aload_n 0 14 rfl dX1_cardByLot_13 rfl ?_
    obtain ⟨r14, er14, hf⟩ := f_bnd hf
    refine Go.cV 17 [] [.int r10] (C_X1_freeCards G l n S a0 r14 ha0 er14) rfl dX1_cardByLot_14 cv_X1_164 ha0 (by decide) (by decide) rfl (Nat.le_of_ble_eq_true rfl) ?_
    refine Go.iand 18 rfl dX1_cardByLot_17 ?_
    refine Go.goto 22 dX1_cardByLot_18 rfl ?_
    exact Go.sub [0, 2] [(0, .ref a0), (2, .long a2)] rfl (J22 (r10 &&& r14) hf)
theorem dX1_foldInto_0 : decode cX1_foldInto 0 = .ok (.lload_n 1, 1) := by decide +kernel
theorem dX1_foldInto_1 : decode cX1_foldInto 1 = .ok (.lstore_n 3, 1) := by decide +kernel
theorem dX1_foldInto_2 : decode cX1_foldInto 2 = .ok (.iconst 0, 1) := by decide +kernel
theorem dX1_foldInto_3 : decode cX1_foldInto 3 = .ok (.istore 5, 2) := by decide +kernel
theorem dX1_foldInto_5 : decode cX1_foldInto 5 = .ok (.iload 5, 2) := by decide +kernel
theorem dX1_foldInto_7 : decode cX1_foldInto 7 = .ok (.aload_n 0, 1) := by decide +kernel
theorem dX1_foldInto_8 : decode cX1_foldInto 8 = .ok (.getfield 37, 3) := by decide +kernel
theorem dX1_foldInto_11 : decode cX1_foldInto 11 = .ok (.if_icmp .ge 41, 3) := by decide +kernel
theorem dX1_foldInto_14 : decode cX1_foldInto 14 = .ok (.iconst 0, 1) := by decide +kernel
theorem dX1_foldInto_15 : decode cX1_foldInto 15 = .ok (.istore 6, 2) := by decide +kernel
theorem dX1_foldInto_17 : decode cX1_foldInto 17 = .ok (.iload 6, 2) := by decide +kernel
theorem dX1_foldInto_19 : decode cX1_foldInto 19 = .ok (.bipush 6, 2) := by decide +kernel
theorem dX1_foldInto_21 : decode cX1_foldInto 21 = .ok (.if_icmp .ge 25, 3) := by decide +kernel
theorem dX1_foldInto_24 : decode cX1_foldInto 24 = .ok (.ldc2_w 167, 3) := by decide +kernel
theorem dX1_foldInto_27 : decode cX1_foldInto 27 = .ok (.lload_n 3, 1) := by decide +kernel
theorem dX1_foldInto_28 : decode cX1_foldInto 28 = .ok (.lmul, 1) := by decide +kernel
theorem dX1_foldInto_29 : decode cX1_foldInto 29 = .ok (.aload_n 0, 1) := by decide +kernel
theorem dX1_foldInto_30 : decode cX1_foldInto 30 = .ok (.iload 5, 2) := by decide +kernel
theorem dX1_foldInto_32 : decode cX1_foldInto 32 = .ok (.iload 6, 2) := by decide +kernel
theorem dX1_foldInto_34 : decode cX1_foldInto 34 = .ok (.invokevirtual 169, 3) := by decide +kernel
theorem dX1_foldInto_37 : decode cX1_foldInto 37 = .ok (.i2l, 1) := by decide +kernel
theorem dX1_foldInto_38 : decode cX1_foldInto 38 = .ok (.ladd, 1) := by decide +kernel
theorem dX1_foldInto_39 : decode cX1_foldInto 39 = .ok (.lstore_n 3, 1) := by decide +kernel
theorem dX1_foldInto_40 : decode cX1_foldInto 40 = .ok (.iinc 6 1, 3) := by decide +kernel
theorem dX1_foldInto_43 : decode cX1_foldInto 43 = .ok (.goto (-26), 3) := by decide +kernel
theorem dX1_foldInto_46 : decode cX1_foldInto 46 = .ok (.iinc 5 1, 3) := by decide +kernel
theorem dX1_foldInto_49 : decode cX1_foldInto 49 = .ok (.goto (-44), 3) := by decide +kernel
theorem dX1_foldInto_52 : decode cX1_foldInto 52 = .ok (.iconst 0, 1) := by decide +kernel
theorem dX1_foldInto_53 : decode cX1_foldInto 53 = .ok (.istore 5, 2) := by decide +kernel
theorem dX1_foldInto_55 : decode cX1_foldInto 55 = .ok (.iload 5, 2) := by decide +kernel
theorem dX1_foldInto_57 : decode cX1_foldInto 57 = .ok (.aload_n 0, 1) := by decide +kernel
theorem dX1_foldInto_58 : decode cX1_foldInto 58 = .ok (.getfield 41, 3) := by decide +kernel
theorem dX1_foldInto_61 : decode cX1_foldInto 61 = .ok (.if_icmp .ge 41, 3) := by decide +kernel
theorem dX1_foldInto_64 : decode cX1_foldInto 64 = .ok (.iconst 0, 1) := by decide +kernel
theorem dX1_foldInto_65 : decode cX1_foldInto 65 = .ok (.istore 6, 2) := by decide +kernel
theorem dX1_foldInto_67 : decode cX1_foldInto 67 = .ok (.iload 6, 2) := by decide +kernel
theorem dX1_foldInto_69 : decode cX1_foldInto 69 = .ok (.bipush 6, 2) := by decide +kernel
theorem dX1_foldInto_71 : decode cX1_foldInto 71 = .ok (.if_icmp .ge 25, 3) := by decide +kernel
theorem dX1_foldInto_74 : decode cX1_foldInto 74 = .ok (.ldc2_w 167, 3) := by decide +kernel
theorem dX1_foldInto_77 : decode cX1_foldInto 77 = .ok (.lload_n 3, 1) := by decide +kernel
theorem dX1_foldInto_78 : decode cX1_foldInto 78 = .ok (.lmul, 1) := by decide +kernel
theorem dX1_foldInto_79 : decode cX1_foldInto 79 = .ok (.aload_n 0, 1) := by decide +kernel
theorem dX1_foldInto_80 : decode cX1_foldInto 80 = .ok (.iload 5, 2) := by decide +kernel
theorem dX1_foldInto_82 : decode cX1_foldInto 82 = .ok (.iload 6, 2) := by decide +kernel
theorem dX1_foldInto_84 : decode cX1_foldInto 84 = .ok (.invokevirtual 172, 3) := by decide +kernel
theorem dX1_foldInto_87 : decode cX1_foldInto 87 = .ok (.i2l, 1) := by decide +kernel
theorem dX1_foldInto_88 : decode cX1_foldInto 88 = .ok (.ladd, 1) := by decide +kernel
theorem dX1_foldInto_89 : decode cX1_foldInto 89 = .ok (.lstore_n 3, 1) := by decide +kernel
theorem dX1_foldInto_90 : decode cX1_foldInto 90 = .ok (.iinc 6 1, 3) := by decide +kernel
theorem dX1_foldInto_93 : decode cX1_foldInto 93 = .ok (.goto (-26), 3) := by decide +kernel
theorem dX1_foldInto_96 : decode cX1_foldInto 96 = .ok (.iinc 5 1, 3) := by decide +kernel
theorem dX1_foldInto_99 : decode cX1_foldInto 99 = .ok (.goto (-44), 3) := by decide +kernel
theorem dX1_foldInto_102 : decode cX1_foldInto 102 = .ok (.iconst 0, 1) := by decide +kernel
theorem dX1_foldInto_103 : decode cX1_foldInto 103 = .ok (.istore 5, 2) := by decide +kernel
theorem dX1_foldInto_105 : decode cX1_foldInto 105 = .ok (.iload 5, 2) := by decide +kernel
theorem dX1_foldInto_107 : decode cX1_foldInto 107 = .ok (.aload_n 0, 1) := by decide +kernel
theorem dX1_foldInto_108 : decode cX1_foldInto 108 = .ok (.getfield 33, 3) := by decide +kernel
theorem dX1_foldInto_111 : decode cX1_foldInto 111 = .ok (.getfield 175, 3) := by decide +kernel
theorem dX1_foldInto_114 : decode cX1_foldInto 114 = .ok (.if_icmp .ge 27, 3) := by decide +kernel
theorem dX1_foldInto_117 : decode cX1_foldInto 117 = .ok (.ldc2_w 167, 3) := by decide +kernel
theorem dX1_foldInto_120 : decode cX1_foldInto 120 = .ok (.lload_n 3, 1) := by decide +kernel
theorem dX1_foldInto_121 : decode cX1_foldInto 121 = .ok (.lmul, 1) := by decide +kernel
theorem dX1_foldInto_122 : decode cX1_foldInto 122 = .ok (.aload_n 0, 1) := by decide +kernel
theorem dX1_foldInto_123 : decode cX1_foldInto 123 = .ok (.getfield 33, 3) := by decide +kernel
theorem dX1_foldInto_126 : decode cX1_foldInto 126 = .ok (.getfield 178, 3) := by decide +kernel
theorem dX1_foldInto_129 : decode cX1_foldInto 129 = .ok (.iload 5, 2) := by decide +kernel
theorem dX1_foldInto_131 : decode cX1_foldInto 131 = .ok (.iaload, 1) := by decide +kernel
theorem dX1_foldInto_132 : decode cX1_foldInto 132 = .ok (.i2l, 1) := by decide +kernel
theorem dX1_foldInto_133 : decode cX1_foldInto 133 = .ok (.ladd, 1) := by decide +kernel
theorem dX1_foldInto_134 : decode cX1_foldInto 134 = .ok (.lstore_n 3, 1) := by decide +kernel
theorem dX1_foldInto_135 : decode cX1_foldInto 135 = .ok (.iinc 5 1, 3) := by decide +kernel
theorem dX1_foldInto_138 : decode cX1_foldInto 138 = .ok (.goto (-33), 3) := by decide +kernel
theorem dX1_foldInto_141 : decode cX1_foldInto 141 = .ok (.lload_n 3, 1) := by decide +kernel
theorem dX1_foldInto_142 : decode cX1_foldInto 142 = .ok (.lreturn, 1) := by decide +kernel
def F_X1_foldInto_L105 (S : aSt) (a0 : Nat) (K141 : Int64 → Option Int64) : Nat → Int64 → Int32 → Option Int64
  | 0, _, _ => none
  | fu + 1, l105_3, l105_5 =>
    rfd (S.2.2 a0 6) 4 fun k108 =>
    if (S.1 k108 6) ≤ l105_5 then (K141 l105_3) else
    rfd (S.2.2 k108 4) 7 fun k126 =>
    grd (inb l105_5 (SH k126).2) <|
    nm (((31 : Int64) * l105_3) + (S.1 k126 l105_5.toNatClampNeg).toInt64) fun v134 =>
    F_X1_foldInto_L105 S a0 K141 fu v134 (l105_5 + (1 : Int32))
def F_X1_foldInto_L67 (n : Nat) (S : aSt) (a0 : Nat) (l55_5 : Int32) (K96 : Int64 → Option Int64) : Nat → Int64 → Int32 → Option Int64
  | 0, _, _ => none
  | fu + 1, l67_3, l67_6 =>
    if (6 : Int32) ≤ l67_6 then (K96 l67_3) else
    (F_X1_questionFact n S a0 l55_5 l67_6).bind fun r84 =>
    nm (((31 : Int64) * l67_3) + r84.toInt64) fun v89 =>
    F_X1_foldInto_L67 n S a0 l55_5 K96 fu v89 (l67_6 + (1 : Int32))
def F_X1_foldInto_L55 (n : Nat) (S : aSt) (a0 : Nat) (K102 : Int64 → Option Int64) : Nat → Int64 → Int32 → Option Int64
  | 0, _, _ => none
  | fu + 1, l55_3, l55_5 =>
    if (S.1 a0 8) ≤ l55_5 then (K102 l55_3) else
    jn (fun (x96_3 : Int64) => (F_X1_foldInto_L55 n S a0 K102 fu x96_3 (l55_5 + (1 : Int32)) : Option Int64)) fun K96 =>
    F_X1_foldInto_L67 n S a0 l55_5 K96 n l55_3 (0 : Int32)
def F_X1_foldInto_L17 (n : Nat) (S : aSt) (a0 : Nat) (l5_5 : Int32) (K46 : Int64 → Option Int64) : Nat → Int64 → Int32 → Option Int64
  | 0, _, _ => none
  | fu + 1, l17_3, l17_6 =>
    if (6 : Int32) ≤ l17_6 then (K46 l17_3) else
    (F_X1_cardFact n S a0 l5_5 l17_6).bind fun r34 =>
    nm (((31 : Int64) * l17_3) + r34.toInt64) fun v39 =>
    F_X1_foldInto_L17 n S a0 l5_5 K46 fu v39 (l17_6 + (1 : Int32))
def F_X1_foldInto_L5 (n : Nat) (S : aSt) (a0 : Nat) (K52 : Int64 → Option Int64) : Nat → Int64 → Int32 → Option Int64
  | 0, _, _ => none
  | fu + 1, l5_3, l5_5 =>
    if (S.1 a0 7) ≤ l5_5 then (K52 l5_3) else
    jn (fun (x46_3 : Int64) => (F_X1_foldInto_L5 n S a0 K52 fu x46_3 (l5_5 + (1 : Int32)) : Option Int64)) fun K46 =>
    F_X1_foldInto_L17 n S a0 l5_5 K46 n l5_3 (0 : Int32)
def F_X1_foldInto (n : Nat) (S : aSt) (a0 : Nat) (a1 : Int64) : Option Int64 :=
jn (fun (x52_3 : Int64) => (jn (fun (x102_3 : Int64) => (jn (fun (x141_3 : Int64) => (some x141_3 : Option Int64)) fun K141 =>
F_X1_foldInto_L105 S a0 K141 n x102_3 (0 : Int32) : Option Int64)) fun K102 =>
F_X1_foldInto_L55 n S a0 K102 n x52_3 (0 : Int32) : Option Int64)) fun K52 =>
F_X1_foldInto_L5 n S a0 K52 n a1 (0 : Int32)
set_option maxHeartbeats 4000000 in
set_option maxRecDepth 100000 in
theorem C_X1_foldInto (G : aG) (l : Launch) (n : Nat) (S : aSt) (a0 : Nat) (a1 : Int64) (r : Int64) (ha0 : isT a0 0 = true) (hf : F_X1_foldInto n S a0 a1 = some r) : Ctr G l yX1_foldInto mX1_foldInto (rmM 4) 97 97 S [.ref a0, .long a1] (some (.long r)) S := by
  refine Ctr.of (by decide) rfl rfl (Nat.le_of_ble_eq_true rfl) [(0, .ref a0), (1, .long a1)] rfl ?_
  unfold F_X1_foldInto at hf
  refine Go.lload_n 1 1 rfl dX1_foldInto_0 rfl ?_
  refine Go.lstore_n 2 [(3, .long a1), (0, .ref a0), (1, .long a1)] rfl dX1_foldInto_1 (by decide) rfl ?_
  refine Go.iconst (0 : Int32) 3 rfl dX1_foldInto_2 ci_0 ?_
  refine Go.istore 5 [(5, .int (0 : Int32)), (3, .long a1), (0, .ref a0), (1, .long a1)] rfl dX1_foldInto_3 (by decide) rfl ?_
  obtain ⟨K52, eK52, hf⟩ := f_jn hf
  have J52 : ∀ (x52_3 : Int64), K52 x52_3 = some r → GoM G l 4 (TmR G (some (.long r)) 97 S 0 0) mX1_foldInto 52 [(0, .ref a0), (3, .long x52_3)] [] S := by
    intro x52_3 hf
    rw [eK52] at hf
    refine Go.iconst (0 : Int32) 53 rfl dX1_foldInto_52 ci_0 ?_
    refine Go.istore 55 [(5, .int (0 : Int32)), (0, .ref a0), (3, .long x52_3)] rfl dX1_foldInto_53 (by decide) rfl ?_
    obtain ⟨K102, eK102, hf⟩ := f_jn hf
    have J102 : ∀ (x102_3 : Int64), K102 x102_3 = some r → GoM G l 4 (TmR G (some (.long r)) 97 S 0 0) mX1_foldInto 102 [(0, .ref a0), (3, .long x102_3)] [] S := by
      intro x102_3 hf
      rw [eK102] at hf
      refine Go.iconst (0 : Int32) 103 rfl dX1_foldInto_102 ci_0 ?_
      refine Go.istore 105 [(5, .int (0 : Int32)), (0, .ref a0), (3, .long x102_3)] rfl dX1_foldInto_103 (by decide) rfl ?_
      obtain ⟨K141, eK141, hf⟩ := f_jn hf
      have J141 : ∀ (x141_3 : Int64), K141 x141_3 = some r → GoM G l 4 (TmR G (some (.long r)) 97 S 0 0) mX1_foldInto 141 [(3, .long x141_3)] [] S := by
        intro x141_3 hf
        rw [eK141] at hf
        refine Go.lload_n 0 142 rfl dX1_foldInto_141 rfl ?_
        exact Go.lr rfl dX1_foldInto_142 hf
      clear eK141
      have L105 : ∀ (fu : Nat) (l105_3 : Int64) (l105_5 : Int32), F_X1_foldInto_L105 S a0 K141 fu l105_3 l105_5 = some r → GoM G l 4 (TmR G (some (.long r)) 97 S 0 0) mX1_foldInto 105 [(0, .ref a0), (3, .long l105_3), (5, .int l105_5)] [] S := by
        intro fu
        induction fu with
        | zero => intro l105_3 l105_5 hf; rw [F_X1_foldInto_L105] at hf; cases hf
        | succ fu ih =>
          intro l105_3 l105_5 hf
          rw [F_X1_foldInto_L105] at hf
          refine Go.iload 2 107 rfl dX1_foldInto_105 rfl ?_
          refine Go.aload_n 0 108 rfl dX1_foldInto_107 rfl ?_
          obtain ⟨k108, qk108, hk108, hf⟩ := f_rfd hf
          refine Go.getR 111 rfl dX1_foldInto_108 fl_X1_33 rfl (isT_lt ha0) (isT_sh ha0) qk108 ?_
          refine Go.getI 114 rfl dX1_foldInto_111 fl_X1_175 rfl (isT_lt hk108) (isT_sh hk108) ?_
          refine Go.icmp_ge 141 117 rfl dX1_foldInto_114 rfl (fun hc => ?_) (fun hc => ?_)
          · replace hf := f_if hf hc
            exact Go.sub [1] [(3, .long l105_3)] rfl (J141 l105_3 hf)
          · replace hf := f_el hf hc
            refine Go.ldc2 (31 : Int64) 120 rfl dX1_foldInto_117 (am_mem 824 (by decide +kernel) rfl) ?_
            refine Go.lload_n 1 121 rfl dX1_foldInto_120 rfl ?_
            refine Go.lmul 122 rfl dX1_foldInto_121 ?_
            refine Go.aload_n 0 123 rfl dX1_foldInto_122 rfl ?_
            refine Go.getR 126 rfl dX1_foldInto_123 fl_X1_33 rfl (isT_lt ha0) (isT_sh ha0) qk108 ?_
            obtain ⟨k126, qk126, hk126, hf⟩ := f_rfd hf
            refine Go.getR 129 rfl dX1_foldInto_126 fl_X1_178 rfl (isT_lt hk108) (isT_sh hk108) qk126 ?_
            refine Go.iload 2 131 rfl dX1_foldInto_129 rfl ?_
            obtain ⟨g131, hf⟩ := f_grd hf
            refine Go.iald 132 rfl dX1_foldInto_131 (isT_lt hk126) (isT_sh hk126) g131 ?_
            refine Go.i2l 133 rfl dX1_foldInto_132 ?_
            refine Go.ladd 134 rfl dX1_foldInto_133 ?_
            obtain ⟨v134, ev134, hf⟩ := f_nm hf
            refine Go.topl v134 ev134 ?_
            refine Go.lstore_n 135 [(3, .long v134), (0, .ref a0), (5, .int l105_5)] rfl dX1_foldInto_134 (by decide) rfl ?_
            refine Go.inc 2 138 (1 : Int32) [(5, .int (l105_5 + (1 : Int32))), (3, .long v134), (0, .ref a0)] rfl dX1_foldInto_135 rfl ci_1 (by decide) rfl ?_
            refine Go.goto 105 dX1_foldInto_138 rfl ?_
            exact Go.sub [2, 1, 0] [(0, .ref a0), (3, .long v134), (5, .int (l105_5 + (1 : Int32)))] rfl (ih v134 (l105_5 + (1 : Int32)) hf)
      exact Go.sub [1, 2, 0] [(0, .ref a0), (3, .long x102_3), (5, .int (0 : Int32))] rfl (L105 n x102_3 (0 : Int32) hf)
    clear eK102
    have L55 : ∀ (fu : Nat) (l55_3 : Int64) (l55_5 : Int32), F_X1_foldInto_L55 n S a0 K102 fu l55_3 l55_5 = some r → GoM G l 4 (TmR G (some (.long r)) 97 S 0 0) mX1_foldInto 55 [(0, .ref a0), (3, .long l55_3), (5, .int l55_5)] [] S := by
      intro fu
      induction fu with
      | zero => intro l55_3 l55_5 hf; rw [F_X1_foldInto_L55] at hf; cases hf
      | succ fu ih =>
        intro l55_3 l55_5 hf
        rw [F_X1_foldInto_L55] at hf
        refine Go.iload 2 57 rfl dX1_foldInto_55 rfl ?_
        refine Go.aload_n 0 58 rfl dX1_foldInto_57 rfl ?_
        refine Go.getI 61 rfl dX1_foldInto_58 fl_X1_41 rfl (isT_lt ha0) (isT_sh ha0) ?_
        refine Go.icmp_ge 102 64 rfl dX1_foldInto_61 rfl (fun hc => ?_) (fun hc => ?_)
        · replace hf := f_if hf hc
          exact Go.sub [0, 1] [(0, .ref a0), (3, .long l55_3)] rfl (J102 l55_3 hf)
        · replace hf := f_el hf hc
          refine Go.iconst (0 : Int32) 65 rfl dX1_foldInto_64 ci_0 ?_
          refine Go.istore 67 [(6, .int (0 : Int32)), (0, .ref a0), (3, .long l55_3), (5, .int l55_5)] rfl dX1_foldInto_65 (by decide) rfl ?_
          obtain ⟨K96, eK96, hf⟩ := f_jn hf
          have J96 : ∀ (x96_3 : Int64), K96 x96_3 = some r → GoM G l 4 (TmR G (some (.long r)) 97 S 0 0) mX1_foldInto 96 [(0, .ref a0), (3, .long x96_3), (5, .int l55_5)] [] S := by
            intro x96_3 hf
            rw [eK96] at hf
            refine Go.inc 2 99 (1 : Int32) [(5, .int (l55_5 + (1 : Int32))), (0, .ref a0), (3, .long x96_3)] rfl dX1_foldInto_96 rfl ci_1 (by decide) rfl ?_
            refine Go.goto 55 dX1_foldInto_99 rfl ?_
            exact Go.sub [1, 2, 0] [(0, .ref a0), (3, .long x96_3), (5, .int (l55_5 + (1 : Int32)))] rfl (ih x96_3 (l55_5 + (1 : Int32)) hf)
          clear eK96
          have L67 : ∀ (fu : Nat) (l67_3 : Int64) (l67_6 : Int32), F_X1_foldInto_L67 n S a0 l55_5 K96 fu l67_3 l67_6 = some r → GoM G l 4 (TmR G (some (.long r)) 97 S 0 0) mX1_foldInto 67 [(0, .ref a0), (3, .long l67_3), (5, .int l55_5), (6, .int l67_6)] [] S := by
            intro fu
            induction fu with
            | zero => intro l67_3 l67_6 hf; rw [F_X1_foldInto_L67] at hf; cases hf
            | succ fu ih =>
              intro l67_3 l67_6 hf
              rw [F_X1_foldInto_L67] at hf
              refine Go.iload 3 69 rfl dX1_foldInto_67 rfl ?_
              refine Go.bipush (6 : Int32) 71 rfl dX1_foldInto_69 cb_6 ?_
              refine Go.icmp_ge 96 74 rfl dX1_foldInto_71 rfl (fun hc => ?_) (fun hc => ?_)
              · replace hf := f_if hf hc
                exact Go.sub [0, 1, 2] [(0, .ref a0), (3, .long l67_3), (5, .int l55_5)] rfl (J96 l67_3 hf)
              · replace hf := f_el hf hc
                refine Go.ldc2 (31 : Int64) 77 rfl dX1_foldInto_74 (am_mem 824 (by decide +kernel) rfl) ?_
                refine Go.lload_n 1 78 rfl dX1_foldInto_77 rfl ?_
                refine Go.lmul 79 rfl dX1_foldInto_78 ?_
                refine Go.aload_n 0 80 rfl dX1_foldInto_79 rfl ?_
                refine Go.iload 2 82 rfl dX1_foldInto_80 rfl ?_
                refine Go.iload 3 84 rfl dX1_foldInto_82 rfl ?_
                obtain ⟨r84, er84, hf⟩ := f_bnd hf
                refine Go.cV 87 [.int l55_5, .int l67_6] [.long ((31 : Int64) * l67_3)] (C_X1_questionFact G l n S a0 l55_5 l67_6 r84 ha0 er84) rfl dX1_foldInto_84 cv_X1_172 ha0 (by decide) (by decide) rfl (Nat.le_of_ble_eq_true rfl) ?_
                refine Go.i2l 88 rfl dX1_foldInto_87 ?_
                refine Go.ladd 89 rfl dX1_foldInto_88 ?_
                obtain ⟨v89, ev89, hf⟩ := f_nm hf
                refine Go.topl v89 ev89 ?_
                refine Go.lstore_n 90 [(3, .long v89), (0, .ref a0), (5, .int l55_5), (6, .int l67_6)] rfl dX1_foldInto_89 (by decide) rfl ?_
                refine Go.inc 3 93 (1 : Int32) [(6, .int (l67_6 + (1 : Int32))), (3, .long v89), (0, .ref a0), (5, .int l55_5)] rfl dX1_foldInto_90 rfl ci_1 (by decide) rfl ?_
                refine Go.goto 67 dX1_foldInto_93 rfl ?_
                exact Go.sub [2, 1, 3, 0] [(0, .ref a0), (3, .long v89), (5, .int l55_5), (6, .int (l67_6 + (1 : Int32)))] rfl (ih v89 (l67_6 + (1 : Int32)) hf)
          exact Go.sub [1, 2, 3, 0] [(0, .ref a0), (3, .long l55_3), (5, .int l55_5), (6, .int (0 : Int32))] rfl (L67 n l55_3 (0 : Int32) hf)
    exact Go.sub [1, 2, 0] [(0, .ref a0), (3, .long x52_3), (5, .int (0 : Int32))] rfl (L55 n x52_3 (0 : Int32) hf)
  clear eK52
  have L5 : ∀ (fu : Nat) (l5_3 : Int64) (l5_5 : Int32), F_X1_foldInto_L5 n S a0 K52 fu l5_3 l5_5 = some r → GoM G l 4 (TmR G (some (.long r)) 97 S 0 0) mX1_foldInto 5 [(0, .ref a0), (3, .long l5_3), (5, .int l5_5)] [] S := by
    intro fu
    induction fu with
    | zero => intro l5_3 l5_5 hf; rw [F_X1_foldInto_L5] at hf; cases hf
    | succ fu ih =>
      intro l5_3 l5_5 hf
      rw [F_X1_foldInto_L5] at hf
      refine Go.iload 2 7 rfl dX1_foldInto_5 rfl ?_
      refine Go.aload_n 0 8 rfl dX1_foldInto_7 rfl ?_
      refine Go.getI 11 rfl dX1_foldInto_8 fl_X1_37 rfl (isT_lt ha0) (isT_sh ha0) ?_
      refine Go.icmp_ge 52 14 rfl dX1_foldInto_11 rfl (fun hc => ?_) (fun hc => ?_)
      · replace hf := f_if hf hc
        exact Go.sub [0, 1] [(0, .ref a0), (3, .long l5_3)] rfl (J52 l5_3 hf)
      · replace hf := f_el hf hc
        refine Go.iconst (0 : Int32) 15 rfl dX1_foldInto_14 ci_0 ?_
        refine Go.istore 17 [(6, .int (0 : Int32)), (0, .ref a0), (3, .long l5_3), (5, .int l5_5)] rfl dX1_foldInto_15 (by decide) rfl ?_
        obtain ⟨K46, eK46, hf⟩ := f_jn hf
        have J46 : ∀ (x46_3 : Int64), K46 x46_3 = some r → GoM G l 4 (TmR G (some (.long r)) 97 S 0 0) mX1_foldInto 46 [(0, .ref a0), (3, .long x46_3), (5, .int l5_5)] [] S := by
          intro x46_3 hf
          rw [eK46] at hf
          refine Go.inc 2 49 (1 : Int32) [(5, .int (l5_5 + (1 : Int32))), (0, .ref a0), (3, .long x46_3)] rfl dX1_foldInto_46 rfl ci_1 (by decide) rfl ?_
          refine Go.goto 5 dX1_foldInto_49 rfl ?_
          exact Go.sub [1, 2, 0] [(0, .ref a0), (3, .long x46_3), (5, .int (l5_5 + (1 : Int32)))] rfl (ih x46_3 (l5_5 + (1 : Int32)) hf)
        clear eK46
        have L17 : ∀ (fu : Nat) (l17_3 : Int64) (l17_6 : Int32), F_X1_foldInto_L17 n S a0 l5_5 K46 fu l17_3 l17_6 = some r → GoM G l 4 (TmR G (some (.long r)) 97 S 0 0) mX1_foldInto 17 [(0, .ref a0), (3, .long l17_3), (5, .int l5_5), (6, .int l17_6)] [] S := by
          intro fu
          induction fu with
          | zero => intro l17_3 l17_6 hf; rw [F_X1_foldInto_L17] at hf; cases hf
          | succ fu ih =>
            intro l17_3 l17_6 hf
            rw [F_X1_foldInto_L17] at hf
            refine Go.iload 3 19 rfl dX1_foldInto_17 rfl ?_
            refine Go.bipush (6 : Int32) 21 rfl dX1_foldInto_19 cb_6 ?_
            refine Go.icmp_ge 46 24 rfl dX1_foldInto_21 rfl (fun hc => ?_) (fun hc => ?_)
            · replace hf := f_if hf hc
              exact Go.sub [0, 1, 2] [(0, .ref a0), (3, .long l17_3), (5, .int l5_5)] rfl (J46 l17_3 hf)
            · replace hf := f_el hf hc
              refine Go.ldc2 (31 : Int64) 27 rfl dX1_foldInto_24 (am_mem 824 (by decide +kernel) rfl) ?_
              refine Go.lload_n 1 28 rfl dX1_foldInto_27 rfl ?_
              refine Go.lmul 29 rfl dX1_foldInto_28 ?_
              refine Go.aload_n 0 30 rfl dX1_foldInto_29 rfl ?_
              refine Go.iload 2 32 rfl dX1_foldInto_30 rfl ?_
              refine Go.iload 3 34 rfl dX1_foldInto_32 rfl ?_
              obtain ⟨r34, er34, hf⟩ := f_bnd hf
              refine Go.cV 37 [.int l5_5, .int l17_6] [.long ((31 : Int64) * l17_3)] (C_X1_cardFact G l n S a0 l5_5 l17_6 r34 ha0 er34) rfl dX1_foldInto_34 cv_X1_169 ha0 (by decide) (by decide) rfl (Nat.le_of_ble_eq_true rfl) ?_
              refine Go.i2l 38 rfl dX1_foldInto_37 ?_
              refine Go.ladd 39 rfl dX1_foldInto_38 ?_
              obtain ⟨v39, ev39, hf⟩ := f_nm hf
              refine Go.topl v39 ev39 ?_
              refine Go.lstore_n 40 [(3, .long v39), (0, .ref a0), (5, .int l5_5), (6, .int l17_6)] rfl dX1_foldInto_39 (by decide) rfl ?_
              refine Go.inc 3 43 (1 : Int32) [(6, .int (l17_6 + (1 : Int32))), (3, .long v39), (0, .ref a0), (5, .int l5_5)] rfl dX1_foldInto_40 rfl ci_1 (by decide) rfl ?_
              refine Go.goto 17 dX1_foldInto_43 rfl ?_
              exact Go.sub [2, 1, 3, 0] [(0, .ref a0), (3, .long v39), (5, .int l5_5), (6, .int (l17_6 + (1 : Int32)))] rfl (ih v39 (l17_6 + (1 : Int32)) hf)
        exact Go.sub [1, 2, 3, 0] [(0, .ref a0), (3, .long l5_3), (5, .int l5_5), (6, .int (0 : Int32))] rfl (L17 n l5_3 (0 : Int32) hf)
  exact Go.sub [2, 1, 0] [(0, .ref a0), (3, .long a1), (5, .int (0 : Int32))] rfl (L5 n a1 (0 : Int32) hf)
