/-! written by program: X1_trueCards X1_questionsFitted X1_verdict X1_answeredWith X1_waysOfTruth X1_cardFact X1_questionFact X1_cardsOn X1_placesSaying X1_yesMeaning X1_markOf X1_placesAmong X1_firstAlike X1_pairsWith X1_cardsOfOn X1_homeOf X1_strayCards -/
theorem dX1_trueCards_0 : decode cX1_trueCards 0 = .ok (.aload_n 0, 1) := by decide +kernel
theorem dX1_trueCards_1 : decode cX1_trueCards 1 = .ok (.getfield 33, 3) := by decide +kernel
theorem dX1_trueCards_4 : decode cX1_trueCards 4 = .ok (.getfield 118, 3) := by decide +kernel
theorem dX1_trueCards_7 : decode cX1_trueCards 7 = .ok (.iload_n 1, 1) := by decide +kernel
theorem dX1_trueCards_8 : decode cX1_trueCards 8 = .ok (.iaload, 1) := by decide +kernel
theorem dX1_trueCards_9 : decode cX1_trueCards 9 = .ok (.istore_n 2, 1) := by decide +kernel
theorem dX1_trueCards_10 : decode cX1_trueCards 10 = .ok (.iconst 0, 1) := by decide +kernel
theorem dX1_trueCards_11 : decode cX1_trueCards 11 = .ok (.istore_n 3, 1) := by decide +kernel
theorem dX1_trueCards_12 : decode cX1_trueCards 12 = .ok (.iconst 0, 1) := by decide +kernel
theorem dX1_trueCards_13 : decode cX1_trueCards 13 = .ok (.istore 4, 2) := by decide +kernel
theorem dX1_trueCards_15 : decode cX1_trueCards 15 = .ok (.iload 4, 2) := by decide +kernel
theorem dX1_trueCards_17 : decode cX1_trueCards 17 = .ok (.aload_n 0, 1) := by decide +kernel
theorem dX1_trueCards_18 : decode cX1_trueCards 18 = .ok (.getfield 37, 3) := by decide +kernel
theorem dX1_trueCards_21 : decode cX1_trueCards 21 = .ok (.if_icmp .ge 42, 3) := by decide +kernel
theorem dX1_trueCards_24 : decode cX1_trueCards 24 = .ok (.aload_n 0, 1) := by decide +kernel
theorem dX1_trueCards_25 : decode cX1_trueCards 25 = .ok (.iload 4, 2) := by decide +kernel
theorem dX1_trueCards_27 : decode cX1_trueCards 27 = .ok (.iload_n 1, 1) := by decide +kernel
theorem dX1_trueCards_28 : decode cX1_trueCards 28 = .ok (.invokevirtual 115, 3) := by decide +kernel
theorem dX1_trueCards_31 : decode cX1_trueCards 31 = .ok (.ifCond .eq 26, 3) := by decide +kernel
theorem dX1_trueCards_34 : decode cX1_trueCards 34 = .ok (.iload_n 2, 1) := by decide +kernel
theorem dX1_trueCards_35 : decode cX1_trueCards 35 = .ok (.bipush (-9), 2) := by decide +kernel
theorem dX1_trueCards_37 : decode cX1_trueCards 37 = .ok (.if_icmp .eq 13, 3) := by decide +kernel
theorem dX1_trueCards_40 : decode cX1_trueCards 40 = .ok (.aload_n 0, 1) := by decide +kernel
theorem dX1_trueCards_41 : decode cX1_trueCards 41 = .ok (.iload 4, 2) := by decide +kernel
theorem dX1_trueCards_43 : decode cX1_trueCards 43 = .ok (.invokevirtual 108, 3) := by decide +kernel
theorem dX1_trueCards_46 : decode cX1_trueCards 46 = .ok (.iload_n 2, 1) := by decide +kernel
theorem dX1_trueCards_47 : decode cX1_trueCards 47 = .ok (.if_icmp .ne 10, 3) := by decide +kernel
theorem dX1_trueCards_50 : decode cX1_trueCards 50 = .ok (.iload_n 3, 1) := by decide +kernel
theorem dX1_trueCards_51 : decode cX1_trueCards 51 = .ok (.iconst 1, 1) := by decide +kernel
theorem dX1_trueCards_52 : decode cX1_trueCards 52 = .ok (.iload 4, 2) := by decide +kernel
theorem dX1_trueCards_54 : decode cX1_trueCards 54 = .ok (.ishl, 1) := by decide +kernel
theorem dX1_trueCards_55 : decode cX1_trueCards 55 = .ok (.ior, 1) := by decide +kernel
theorem dX1_trueCards_56 : decode cX1_trueCards 56 = .ok (.istore_n 3, 1) := by decide +kernel
theorem dX1_trueCards_57 : decode cX1_trueCards 57 = .ok (.iinc 4 1, 3) := by decide +kernel
theorem dX1_trueCards_60 : decode cX1_trueCards 60 = .ok (.goto (-45), 3) := by decide +kernel
theorem dX1_trueCards_63 : decode cX1_trueCards 63 = .ok (.iload_n 3, 1) := by decide +kernel
theorem dX1_trueCards_64 : decode cX1_trueCards 64 = .ok (.ireturn, 1) := by decide +kernel
def F_X1_trueCards_L15 (n : Nat) (S : aSt) (a0 : Nat) (a1 : Int32) (v9 : Int32) (K63 : Int32 → Option Int32) : Nat → Int32 → Int32 → Option Int32
  | 0, _, _ => none
  | fu + 1, l15_3, l15_4 =>
    if (S.1 a0 7) ≤ l15_4 then (K63 l15_3) else
    (F_X1_isFitting n S a0 l15_4 a1).bind fun r28 =>
    jn (fun (j57_3 : Int32) => (F_X1_trueCards_L15 n S a0 a1 v9 K63 fu j57_3 (l15_4 + (1 : Int32)) : Option Int32)) fun K57 =>
    if r28 = 0 then (K57 l15_3) else
    jn ((nm (l15_3 ||| ((1 : Int32) <<< (l15_4 &&& 31))) fun v56 =>
    K57 v56 : Option Int32)) fun K50 =>
    if v9 = (-9 : Int32) then (K50) else
    (F_X1_meaningOf n S a0 l15_4).bind fun r43 =>
    if r43 = v9 then (K50) else
    K57 l15_3
def F_X1_trueCards (n : Nat) (S : aSt) (a0 : Nat) (a1 : Int32) : Option Int32 :=
rfd (S.2.2 a0 6) 4 fun k1 =>
rfd (S.2.2 k1 2) 7 fun k4 =>
grd (inb a1 (SH k4).2) <|
nm (S.1 k4 a1.toNatClampNeg) fun v9 =>
jn (fun (x63_3 : Int32) => (some x63_3 : Option Int32)) fun K63 =>
F_X1_trueCards_L15 n S a0 a1 v9 K63 n (0 : Int32) (0 : Int32)
set_option maxHeartbeats 4000000 in
set_option maxRecDepth 100000 in
theorem C_X1_trueCards (G : aG) (l : Launch) (n : Nat) (S : aSt) (a0 : Nat) (a1 : Int32) (r : Int32) (ha0 : isT a0 0 = true) (hf : F_X1_trueCards n S a0 a1 = some r) : Ctr G l yX1_trueCards mX1_trueCards (rmM 4) 97 97 S [.ref a0, .int a1] (some (.int r)) S := by
  refine Ctr.of (by decide) rfl rfl (Nat.le_of_ble_eq_true rfl) [(0, .ref a0), (1, .int a1)] rfl ?_
  unfold F_X1_trueCards at hf
  refine Go.aload_n 0 1 rfl dX1_trueCards_0 rfl ?_
  obtain ⟨k1, qk1, hk1, hf⟩ := f_rfd hf
  refine Go.getR 4 rfl dX1_trueCards_1 fl_X1_33 rfl (isT_lt ha0) (isT_sh ha0) qk1 ?_
  obtain ⟨k4, qk4, hk4, hf⟩ := f_rfd hf
  refine Go.getR 7 rfl dX1_trueCards_4 fl_X1_118 rfl (isT_lt hk1) (isT_sh hk1) qk4 ?_
  refine Go.iload_n 1 8 rfl dX1_trueCards_7 rfl ?_
  obtain ⟨g8, hf⟩ := f_grd hf
  refine Go.iald 9 rfl dX1_trueCards_8 (isT_lt hk4) (isT_sh hk4) g8 ?_
  obtain ⟨v9, ev9, hf⟩ := f_nm hf
  refine Go.topi v9 ev9 ?_
  refine Go.istore_n 10 [(2, .int v9), (0, .ref a0), (1, .int a1)] rfl dX1_trueCards_9 (by decide) rfl ?_
  refine Go.iconst (0 : Int32) 11 rfl dX1_trueCards_10 ci_0 ?_
  refine Go.istore_n 12 [(3, .int (0 : Int32)), (2, .int v9), (0, .ref a0), (1, .int a1)] rfl dX1_trueCards_11 (by decide) rfl ?_
  refine Go.iconst (0 : Int32) 13 rfl dX1_trueCards_12 ci_0 ?_
  refine Go.istore 15 [(4, .int (0 : Int32)), (3, .int (0 : Int32)), (2, .int v9), (0, .ref a0), (1, .int a1)] rfl dX1_trueCards_13 (by decide) rfl ?_
  obtain ⟨K63, eK63, hf⟩ := f_jn hf
  have J63 : ∀ (x63_3 : Int32), K63 x63_3 = some r → GoM G l 4 (TmR G (some (.int r)) 97 S 0 0) mX1_trueCards 63 [(3, .int x63_3)] [] S := by
    intro x63_3 hf
    rw [eK63] at hf
    refine Go.iload_n 0 64 rfl dX1_trueCards_63 rfl ?_
    exact Go.ir rfl dX1_trueCards_64 hf
  clear eK63
  have L15 : ∀ (fu : Nat) (l15_3 : Int32) (l15_4 : Int32), F_X1_trueCards_L15 n S a0 a1 v9 K63 fu l15_3 l15_4 = some r → GoM G l 4 (TmR G (some (.int r)) 97 S 0 0) mX1_trueCards 15 [(0, .ref a0), (1, .int a1), (2, .int v9), (3, .int l15_3), (4, .int l15_4)] [] S := by
    intro fu
    induction fu with
    | zero => intro l15_3 l15_4 hf; rw [F_X1_trueCards_L15] at hf; cases hf
    | succ fu ih =>
      intro l15_3 l15_4 hf
      rw [F_X1_trueCards_L15] at hf
      refine Go.iload 4 17 rfl dX1_trueCards_15 rfl ?_
      refine Go.aload_n 0 18 rfl dX1_trueCards_17 rfl ?_
      refine Go.getI 21 rfl dX1_trueCards_18 fl_X1_37 rfl (isT_lt ha0) (isT_sh ha0) ?_
      refine Go.icmp_ge 63 24 rfl dX1_trueCards_21 rfl (fun hc => ?_) (fun hc => ?_)
      · replace hf := f_if hf hc
        exact Go.sub [3] [(3, .int l15_3)] rfl (J63 l15_3 hf)
      · replace hf := f_el hf hc
        refine Go.aload_n 0 25 rfl dX1_trueCards_24 rfl ?_
        refine Go.iload 4 27 rfl dX1_trueCards_25 rfl ?_
        refine Go.iload_n 1 28 rfl dX1_trueCards_27 rfl ?_
        obtain ⟨r28, er28, hf⟩ := f_bnd hf
        refine Go.cV 31 [.int l15_4, .int a1] [] (C_X1_isFitting G l n S a0 l15_4 a1 r28 ha0 er28) rfl dX1_trueCards_28 cv_X1_115 ha0 (by decide) (by decide) rfl (Nat.le_of_ble_eq_true rfl) ?_
        obtain ⟨K57, eK57, hf⟩ := f_jn hf
        have J57 : ∀ (j57_3 : Int32), K57 j57_3 = some r → GoM G l 4 (TmR G (some (.int r)) 97 S 0 0) mX1_trueCards 57 [(0, .ref a0), (1, .int a1), (2, .int v9), (3, .int j57_3), (4, .int l15_4)] [] S := by
          intro j57_3 hf
          rw [eK57] at hf
          refine Go.inc 4 60 (1 : Int32) [(4, .int (l15_4 + (1 : Int32))), (0, .ref a0), (1, .int a1), (2, .int v9), (3, .int j57_3)] rfl dX1_trueCards_57 rfl ci_1 (by decide) rfl ?_
          refine Go.goto 15 dX1_trueCards_60 rfl ?_
          exact Go.sub [1, 2, 3, 4, 0] [(0, .ref a0), (1, .int a1), (2, .int v9), (3, .int j57_3), (4, .int (l15_4 + (1 : Int32)))] rfl (ih j57_3 (l15_4 + (1 : Int32)) hf)
        clear eK57
        refine Go.if_eq 57 34 rfl dX1_trueCards_31 rfl (fun hc => ?_) (fun hc => ?_)
        · replace hf := f_if hf hc
          exact J57 l15_3 hf
        · replace hf := f_el hf hc
          refine Go.iload_n 2 35 rfl dX1_trueCards_34 rfl ?_
          refine Go.bipush (-9 : Int32) 37 rfl dX1_trueCards_35 cb_m9 ?_
          obtain ⟨K50, eK50, hf⟩ := f_jn hf
          have J50 : K50 = some r → GoM G l 4 (TmR G (some (.int r)) 97 S 0 0) mX1_trueCards 50 [(0, .ref a0), (1, .int a1), (2, .int v9), (3, .int l15_3), (4, .int l15_4)] [] S := by
            intro hf
            rw [eK50] at hf
            refine Go.iload_n 3 51 rfl dX1_trueCards_50 rfl ?_
            refine Go.iconst (1 : Int32) 52 rfl dX1_trueCards_51 ci_1 ?_
            refine Go.iload 4 54 rfl dX1_trueCards_52 rfl ?_
            refine Go.ishl 55 rfl dX1_trueCards_54 ?_
            refine Go.ior 56 rfl dX1_trueCards_55 ?_
            obtain ⟨v56, ev56, hf⟩ := f_nm hf
            refine Go.topi v56 ev56 ?_
            refine Go.istore_n 57 [(3, .int v56), (0, .ref a0), (1, .int a1), (2, .int v9), (4, .int l15_4)] rfl dX1_trueCards_56 (by decide) rfl ?_
            exact Go.sub [1, 2, 3, 0, 4] [(0, .ref a0), (1, .int a1), (2, .int v9), (3, .int v56), (4, .int l15_4)] rfl (J57 v56 hf)
          clear eK50
          refine Go.icmp_eq 50 40 rfl dX1_trueCards_37 rfl (fun hc => ?_) (fun hc => ?_)
          · replace hf := f_if hf hc
            exact J50 hf
          · replace hf := f_el hf hc
            refine Go.aload_n 0 41 rfl dX1_trueCards_40 rfl ?_
            refine Go.iload 4 43 rfl dX1_trueCards_41 rfl ?_
            obtain ⟨r43, er43, hf⟩ := f_bnd hf
            refine Go.cV 46 [.int l15_4] [] (C_X1_meaningOf G l n S a0 l15_4 r43 ha0 er43) rfl dX1_trueCards_43 cv_X1_108 ha0 (by decide) (by decide) rfl (Nat.le_of_ble_eq_true rfl) ?_
            refine Go.iload_n 2 47 rfl dX1_trueCards_46 rfl ?_
            refine Go.icmp_ne 57 50 rfl dX1_trueCards_47 rfl (fun hc => ?_) (fun hc => ?_)
            · replace hf := f_el hf hc
              exact J57 l15_3 hf
            · replace hf := f_if hf hc
              exact J50 hf
  exact Go.sub [3, 4, 2, 1, 0] [(0, .ref a0), (1, .int a1), (2, .int v9), (3, .int (0 : Int32)), (4, .int (0 : Int32))] rfl (L15 n (0 : Int32) (0 : Int32) hf)
theorem dX1_questionsFitted_0 : decode cX1_questionsFitted 0 = .ok (.iconst 0, 1) := by decide +kernel
theorem dX1_questionsFitted_1 : decode cX1_questionsFitted 1 = .ok (.istore_n 2, 1) := by decide +kernel
theorem dX1_questionsFitted_2 : decode cX1_questionsFitted 2 = .ok (.iconst 0, 1) := by decide +kernel
theorem dX1_questionsFitted_3 : decode cX1_questionsFitted 3 = .ok (.istore_n 3, 1) := by decide +kernel
theorem dX1_questionsFitted_4 : decode cX1_questionsFitted 4 = .ok (.iload_n 3, 1) := by decide +kernel
theorem dX1_questionsFitted_5 : decode cX1_questionsFitted 5 = .ok (.aload_n 0, 1) := by decide +kernel
theorem dX1_questionsFitted_6 : decode cX1_questionsFitted 6 = .ok (.getfield 41, 3) := by decide +kernel
theorem dX1_questionsFitted_9 : decode cX1_questionsFitted 9 = .ok (.if_icmp .ge 21, 3) := by decide +kernel
theorem dX1_questionsFitted_12 : decode cX1_questionsFitted 12 = .ok (.aload_n 0, 1) := by decide +kernel
theorem dX1_questionsFitted_13 : decode cX1_questionsFitted 13 = .ok (.iload_n 1, 1) := by decide +kernel
theorem dX1_questionsFitted_14 : decode cX1_questionsFitted 14 = .ok (.iload_n 3, 1) := by decide +kernel
theorem dX1_questionsFitted_15 : decode cX1_questionsFitted 15 = .ok (.invokevirtual 115, 3) := by decide +kernel
theorem dX1_questionsFitted_18 : decode cX1_questionsFitted 18 = .ok (.ifCond .eq 6, 3) := by decide +kernel
theorem dX1_questionsFitted_21 : decode cX1_questionsFitted 21 = .ok (.iinc 2 1, 3) := by decide +kernel
theorem dX1_questionsFitted_24 : decode cX1_questionsFitted 24 = .ok (.iinc 3 1, 3) := by decide +kernel
theorem dX1_questionsFitted_27 : decode cX1_questionsFitted 27 = .ok (.goto (-23), 3) := by decide +kernel
theorem dX1_questionsFitted_30 : decode cX1_questionsFitted 30 = .ok (.iload_n 2, 1) := by decide +kernel
theorem dX1_questionsFitted_31 : decode cX1_questionsFitted 31 = .ok (.ireturn, 1) := by decide +kernel
def F_X1_questionsFitted_L4 (n : Nat) (S : aSt) (a0 : Nat) (a1 : Int32) (K30 : Int32 → Option Int32) : Nat → Int32 → Int32 → Option Int32
  | 0, _, _ => none
  | fu + 1, l4_2, l4_3 =>
    if (S.1 a0 8) ≤ l4_3 then (K30 l4_2) else
    (F_X1_isFitting n S a0 a1 l4_3).bind fun r15 =>
    jn (fun (j24_2 : Int32) => (F_X1_questionsFitted_L4 n S a0 a1 K30 fu j24_2 (l4_3 + (1 : Int32)) : Option Int32)) fun K24 =>
    if r15 = 0 then (K24 l4_2) else
    K24 (l4_2 + (1 : Int32))
def F_X1_questionsFitted (n : Nat) (S : aSt) (a0 : Nat) (a1 : Int32) : Option Int32 :=
jn (fun (x30_2 : Int32) => (some x30_2 : Option Int32)) fun K30 =>
F_X1_questionsFitted_L4 n S a0 a1 K30 n (0 : Int32) (0 : Int32)
set_option maxHeartbeats 4000000 in
set_option maxRecDepth 100000 in
theorem C_X1_questionsFitted (G : aG) (l : Launch) (n : Nat) (S : aSt) (a0 : Nat) (a1 : Int32) (r : Int32) (ha0 : isT a0 0 = true) (hf : F_X1_questionsFitted n S a0 a1 = some r) : Ctr G l yX1_questionsFitted mX1_questionsFitted (rmM 4) 97 97 S [.ref a0, .int a1] (some (.int r)) S := by
  refine Ctr.of (by decide) rfl rfl (Nat.le_of_ble_eq_true rfl) [(0, .ref a0), (1, .int a1)] rfl ?_
  unfold F_X1_questionsFitted at hf
  refine Go.iconst (0 : Int32) 1 rfl dX1_questionsFitted_0 ci_0 ?_
  refine Go.istore_n 2 [(2, .int (0 : Int32)), (0, .ref a0), (1, .int a1)] rfl dX1_questionsFitted_1 (by decide) rfl ?_
  refine Go.iconst (0 : Int32) 3 rfl dX1_questionsFitted_2 ci_0 ?_
  refine Go.istore_n 4 [(3, .int (0 : Int32)), (2, .int (0 : Int32)), (0, .ref a0), (1, .int a1)] rfl dX1_questionsFitted_3 (by decide) rfl ?_
  obtain ⟨K30, eK30, hf⟩ := f_jn hf
  have J30 : ∀ (x30_2 : Int32), K30 x30_2 = some r → GoM G l 4 (TmR G (some (.int r)) 97 S 0 0) mX1_questionsFitted 30 [(2, .int x30_2)] [] S := by
    intro x30_2 hf
    rw [eK30] at hf
    refine Go.iload_n 0 31 rfl dX1_questionsFitted_30 rfl ?_
    exact Go.ir rfl dX1_questionsFitted_31 hf
  clear eK30
  have L4 : ∀ (fu : Nat) (l4_2 : Int32) (l4_3 : Int32), F_X1_questionsFitted_L4 n S a0 a1 K30 fu l4_2 l4_3 = some r → GoM G l 4 (TmR G (some (.int r)) 97 S 0 0) mX1_questionsFitted 4 [(0, .ref a0), (1, .int a1), (2, .int l4_2), (3, .int l4_3)] [] S := by
    intro fu
    induction fu with
    | zero => intro l4_2 l4_3 hf; rw [F_X1_questionsFitted_L4] at hf; cases hf
    | succ fu ih =>
      intro l4_2 l4_3 hf
      rw [F_X1_questionsFitted_L4] at hf
      refine Go.iload_n 3 5 rfl dX1_questionsFitted_4 rfl ?_
      refine Go.aload_n 0 6 rfl dX1_questionsFitted_5 rfl ?_
      refine Go.getI 9 rfl dX1_questionsFitted_6 fl_X1_41 rfl (isT_lt ha0) (isT_sh ha0) ?_
      refine Go.icmp_ge 30 12 rfl dX1_questionsFitted_9 rfl (fun hc => ?_) (fun hc => ?_)
      · replace hf := f_if hf hc
        exact Go.sub [2] [(2, .int l4_2)] rfl (J30 l4_2 hf)
      · replace hf := f_el hf hc
        refine Go.aload_n 0 13 rfl dX1_questionsFitted_12 rfl ?_
        refine Go.iload_n 1 14 rfl dX1_questionsFitted_13 rfl ?_
        refine Go.iload_n 3 15 rfl dX1_questionsFitted_14 rfl ?_
        obtain ⟨r15, er15, hf⟩ := f_bnd hf
        refine Go.cV 18 [.int a1, .int l4_3] [] (C_X1_isFitting G l n S a0 a1 l4_3 r15 ha0 er15) rfl dX1_questionsFitted_15 cv_X1_115 ha0 (by decide) (by decide) rfl (Nat.le_of_ble_eq_true rfl) ?_
        obtain ⟨K24, eK24, hf⟩ := f_jn hf
        have J24 : ∀ (j24_2 : Int32), K24 j24_2 = some r → GoM G l 4 (TmR G (some (.int r)) 97 S 0 0) mX1_questionsFitted 24 [(0, .ref a0), (1, .int a1), (2, .int j24_2), (3, .int l4_3)] [] S := by
          intro j24_2 hf
          rw [eK24] at hf
          refine Go.inc 3 27 (1 : Int32) [(3, .int (l4_3 + (1 : Int32))), (0, .ref a0), (1, .int a1), (2, .int j24_2)] rfl dX1_questionsFitted_24 rfl ci_1 (by decide) rfl ?_
          refine Go.goto 4 dX1_questionsFitted_27 rfl ?_
          exact Go.sub [1, 2, 3, 0] [(0, .ref a0), (1, .int a1), (2, .int j24_2), (3, .int (l4_3 + (1 : Int32)))] rfl (ih j24_2 (l4_3 + (1 : Int32)) hf)
        clear eK24
        refine Go.if_eq 24 21 rfl dX1_questionsFitted_18 rfl (fun hc => ?_) (fun hc => ?_)
        · replace hf := f_if hf hc
          exact J24 l4_2 hf
        · replace hf := f_el hf hc
          refine Go.inc 2 24 (1 : Int32) [(2, .int (l4_2 + (1 : Int32))), (0, .ref a0), (1, .int a1), (3, .int l4_3)] rfl dX1_questionsFitted_21 rfl ci_1 (by decide) rfl ?_
          exact Go.sub [1, 2, 0, 3] [(0, .ref a0), (1, .int a1), (2, .int (l4_2 + (1 : Int32))), (3, .int l4_3)] rfl (J24 (l4_2 + (1 : Int32)) hf)
  exact Go.sub [2, 3, 1, 0] [(0, .ref a0), (1, .int a1), (2, .int (0 : Int32)), (3, .int (0 : Int32))] rfl (L4 n (0 : Int32) (0 : Int32) hf)
theorem dX1_verdict_0 : decode cX1_verdict 0 = .ok (.aload_n 0, 1) := by decide +kernel
theorem dX1_verdict_1 : decode cX1_verdict 1 = .ok (.iload_n 1, 1) := by decide +kernel
theorem dX1_verdict_2 : decode cX1_verdict 2 = .ok (.invokevirtual 101, 3) := by decide +kernel
theorem dX1_verdict_5 : decode cX1_verdict 5 = .ok (.ifCond .ne 17, 3) := by decide +kernel
theorem dX1_verdict_8 : decode cX1_verdict 8 = .ok (.aload_n 0, 1) := by decide +kernel
theorem dX1_verdict_9 : decode cX1_verdict 9 = .ok (.getfield 33, 3) := by decide +kernel
theorem dX1_verdict_12 : decode cX1_verdict 12 = .ok (.getfield 118, 3) := by decide +kernel
theorem dX1_verdict_15 : decode cX1_verdict 15 = .ok (.iload_n 1, 1) := by decide +kernel
theorem dX1_verdict_16 : decode cX1_verdict 16 = .ok (.iaload, 1) := by decide +kernel
theorem dX1_verdict_17 : decode cX1_verdict 17 = .ok (.bipush (-9), 2) := by decide +kernel
theorem dX1_verdict_19 : decode cX1_verdict 19 = .ok (.if_icmp .ne 5, 3) := by decide +kernel
theorem dX1_verdict_22 : decode cX1_verdict 22 = .ok (.iconst 2, 1) := by decide +kernel
theorem dX1_verdict_23 : decode cX1_verdict 23 = .ok (.ireturn, 1) := by decide +kernel
theorem dX1_verdict_24 : decode cX1_verdict 24 = .ok (.aload_n 0, 1) := by decide +kernel
theorem dX1_verdict_25 : decode cX1_verdict 25 = .ok (.aload_n 0, 1) := by decide +kernel
theorem dX1_verdict_26 : decode cX1_verdict 26 = .ok (.getfield 33, 3) := by decide +kernel
theorem dX1_verdict_29 : decode cX1_verdict 29 = .ok (.getfield 94, 3) := by decide +kernel
theorem dX1_verdict_32 : decode cX1_verdict 32 = .ok (.iload_n 1, 1) := by decide +kernel
theorem dX1_verdict_33 : decode cX1_verdict 33 = .ok (.iaload, 1) := by decide +kernel
theorem dX1_verdict_34 : decode cX1_verdict 34 = .ok (.invokevirtual 108, 3) := by decide +kernel
theorem dX1_verdict_37 : decode cX1_verdict 37 = .ok (.aload_n 0, 1) := by decide +kernel
theorem dX1_verdict_38 : decode cX1_verdict 38 = .ok (.getfield 33, 3) := by decide +kernel
theorem dX1_verdict_41 : decode cX1_verdict 41 = .ok (.getfield 118, 3) := by decide +kernel
theorem dX1_verdict_44 : decode cX1_verdict 44 = .ok (.iload_n 1, 1) := by decide +kernel
theorem dX1_verdict_45 : decode cX1_verdict 45 = .ok (.iaload, 1) := by decide +kernel
theorem dX1_verdict_46 : decode cX1_verdict 46 = .ok (.if_icmp .ne 7, 3) := by decide +kernel
theorem dX1_verdict_49 : decode cX1_verdict 49 = .ok (.iconst 1, 1) := by decide +kernel
theorem dX1_verdict_50 : decode cX1_verdict 50 = .ok (.goto 4, 3) := by decide +kernel
theorem dX1_verdict_53 : decode cX1_verdict 53 = .ok (.iconst 0, 1) := by decide +kernel
theorem dX1_verdict_54 : decode cX1_verdict 54 = .ok (.ireturn, 1) := by decide +kernel
def F_X1_verdict (n : Nat) (S : aSt) (a0 : Nat) (a1 : Int32) : Option Int32 :=
(F_X1_isFreeQuestion n S a0 a1).bind fun r2 =>
if r2 = 0 then (rfd (S.2.2 a0 6) 4 fun k9 =>
rfd (S.2.2 k9 2) 7 fun k12 =>
grd (inb a1 (SH k12).2) <|
if (S.1 k12 a1.toNatClampNeg) = (-9 : Int32) then (some (2 : Int32)) else
rfd (S.2.2 k9 3) 7 fun k29 =>
grd (inb a1 (SH k29).2) <|
(F_X1_meaningOf n S a0 (S.1 k29 a1.toNatClampNeg)).bind fun r34 =>
grd (inb a1 (SH k12).2) <|
if r34 = (S.1 k12 a1.toNatClampNeg) then (some (1 : Int32)) else
some (0 : Int32)) else
some (2 : Int32)
set_option maxHeartbeats 4000000 in
set_option maxRecDepth 100000 in
theorem C_X1_verdict (G : aG) (l : Launch) (n : Nat) (S : aSt) (a0 : Nat) (a1 : Int32) (r : Int32) (ha0 : isT a0 0 = true) (hf : F_X1_verdict n S a0 a1 = some r) : Ctr G l yX1_verdict mX1_verdict (rmM 3) 97 97 S [.ref a0, .int a1] (some (.int r)) S := by
  refine Ctr.of (by decide) rfl rfl (Nat.le_of_ble_eq_true rfl) [(0, .ref a0), (1, .int a1)] rfl ?_
  unfold F_X1_verdict at hf
  refine Go.aload_n 0 1 rfl dX1_verdict_0 rfl ?_
  refine Go.iload_n 1 2 rfl dX1_verdict_1 rfl ?_
  obtain ⟨r2, er2, hf⟩ := f_bnd hf
  refine Go.cV 5 [.int a1] [] (C_X1_isFreeQuestion G l n S a0 a1 r2 ha0 er2) rfl dX1_verdict_2 cv_X1_101 ha0 (by decide) (by decide) rfl (Nat.le_of_ble_eq_true rfl) ?_
  refine Go.if_ne 22 8 rfl dX1_verdict_5 rfl (fun hc => ?_) (fun hc => ?_)
  · replace hf := f_el hf hc
    refine Go.iconst (2 : Int32) 23 rfl dX1_verdict_22 ci_2 ?_
    exact Go.ir rfl dX1_verdict_23 hf
  · replace hf := f_if hf hc
    refine Go.aload_n 0 9 rfl dX1_verdict_8 rfl ?_
    obtain ⟨k9, qk9, hk9, hf⟩ := f_rfd hf
    refine Go.getR 12 rfl dX1_verdict_9 fl_X1_33 rfl (isT_lt ha0) (isT_sh ha0) qk9 ?_
    obtain ⟨k12, qk12, hk12, hf⟩ := f_rfd hf
    refine Go.getR 15 rfl dX1_verdict_12 fl_X1_118 rfl (isT_lt hk9) (isT_sh hk9) qk12 ?_
    refine Go.iload_n 1 16 rfl dX1_verdict_15 rfl ?_
    obtain ⟨g16, hf⟩ := f_grd hf
    refine Go.iald 17 rfl dX1_verdict_16 (isT_lt hk12) (isT_sh hk12) g16 ?_
    refine Go.bipush (-9 : Int32) 19 rfl dX1_verdict_17 cb_m9 ?_
    refine Go.icmp_ne 24 22 rfl dX1_verdict_19 rfl (fun hc => ?_) (fun hc => ?_)
    · replace hf := f_el hf hc
      refine Go.aload_n 0 25 rfl dX1_verdict_24 rfl ?_
      refine Go.aload_n 0 26 rfl dX1_verdict_25 rfl ?_
      refine Go.getR 29 rfl dX1_verdict_26 fl_X1_33 rfl (isT_lt ha0) (isT_sh ha0) qk9 ?_
      obtain ⟨k29, qk29, hk29, hf⟩ := f_rfd hf
      refine Go.getR 32 rfl dX1_verdict_29 fl_X1_94 rfl (isT_lt hk9) (isT_sh hk9) qk29 ?_
      refine Go.iload_n 1 33 rfl dX1_verdict_32 rfl ?_
      obtain ⟨g33, hf⟩ := f_grd hf
      refine Go.iald 34 rfl dX1_verdict_33 (isT_lt hk29) (isT_sh hk29) g33 ?_
      obtain ⟨r34, er34, hf⟩ := f_bnd hf
      refine Go.cV 37 [.int (S.1 k29 a1.toNatClampNeg)] [] (C_X1_meaningOf G l n S a0 (S.1 k29 a1.toNatClampNeg) r34 ha0 er34) rfl dX1_verdict_34 cv_X1_108 ha0 (by decide) (by decide) rfl (Nat.le_of_ble_eq_true rfl) ?_
      refine Go.aload_n 0 38 rfl dX1_verdict_37 rfl ?_
      refine Go.getR 41 rfl dX1_verdict_38 fl_X1_33 rfl (isT_lt ha0) (isT_sh ha0) qk9 ?_
      refine Go.getR 44 rfl dX1_verdict_41 fl_X1_118 rfl (isT_lt hk9) (isT_sh hk9) qk12 ?_
      refine Go.iload_n 1 45 rfl dX1_verdict_44 rfl ?_
      obtain ⟨g45, hf⟩ := f_grd hf
      refine Go.iald 46 rfl dX1_verdict_45 (isT_lt hk12) (isT_sh hk12) g45 ?_
      refine Go.icmp_ne 53 49 rfl dX1_verdict_46 rfl (fun hc => ?_) (fun hc => ?_)
      · replace hf := f_el hf hc
        refine Go.iconst (0 : Int32) 54 rfl dX1_verdict_53 ci_0 ?_
        exact Go.ir rfl dX1_verdict_54 hf
      · replace hf := f_if hf hc
        refine Go.iconst (1 : Int32) 50 rfl dX1_verdict_49 ci_1 ?_
        refine Go.goto 54 dX1_verdict_50 rfl ?_
        exact Go.ir rfl dX1_verdict_54 hf
    · replace hf := f_if hf hc
      refine Go.iconst (2 : Int32) 23 rfl dX1_verdict_22 ci_2 ?_
      exact Go.ir rfl dX1_verdict_23 hf
theorem dX1_answeredWith_0 : decode cX1_answeredWith 0 = .ok (.iconst 0, 1) := by decide +kernel
theorem dX1_answeredWith_1 : decode cX1_answeredWith 1 = .ok (.istore_n 2, 1) := by decide +kernel
theorem dX1_answeredWith_2 : decode cX1_answeredWith 2 = .ok (.iconst 0, 1) := by decide +kernel
theorem dX1_answeredWith_3 : decode cX1_answeredWith 3 = .ok (.istore_n 3, 1) := by decide +kernel
theorem dX1_answeredWith_4 : decode cX1_answeredWith 4 = .ok (.iload_n 3, 1) := by decide +kernel
theorem dX1_answeredWith_5 : decode cX1_answeredWith 5 = .ok (.aload_n 0, 1) := by decide +kernel
theorem dX1_answeredWith_6 : decode cX1_answeredWith 6 = .ok (.getfield 41, 3) := by decide +kernel
theorem dX1_answeredWith_9 : decode cX1_answeredWith 9 = .ok (.if_icmp .ge 21, 3) := by decide +kernel
theorem dX1_answeredWith_12 : decode cX1_answeredWith 12 = .ok (.aload_n 0, 1) := by decide +kernel
theorem dX1_answeredWith_13 : decode cX1_answeredWith 13 = .ok (.iload_n 3, 1) := by decide +kernel
theorem dX1_answeredWith_14 : decode cX1_answeredWith 14 = .ok (.invokevirtual 121, 3) := by decide +kernel
theorem dX1_answeredWith_17 : decode cX1_answeredWith 17 = .ok (.iload_n 1, 1) := by decide +kernel
theorem dX1_answeredWith_18 : decode cX1_answeredWith 18 = .ok (.if_icmp .ne 6, 3) := by decide +kernel
theorem dX1_answeredWith_21 : decode cX1_answeredWith 21 = .ok (.iinc 2 1, 3) := by decide +kernel
theorem dX1_answeredWith_24 : decode cX1_answeredWith 24 = .ok (.iinc 3 1, 3) := by decide +kernel
theorem dX1_answeredWith_27 : decode cX1_answeredWith 27 = .ok (.goto (-23), 3) := by decide +kernel
theorem dX1_answeredWith_30 : decode cX1_answeredWith 30 = .ok (.iload_n 2, 1) := by decide +kernel
theorem dX1_answeredWith_31 : decode cX1_answeredWith 31 = .ok (.ireturn, 1) := by decide +kernel
def F_X1_answeredWith_L4 (n : Nat) (S : aSt) (a0 : Nat) (a1 : Int32) (K30 : Int32 → Option Int32) : Nat → Int32 → Int32 → Option Int32
  | 0, _, _ => none
  | fu + 1, l4_2, l4_3 =>
    if (S.1 a0 8) ≤ l4_3 then (K30 l4_2) else
    (F_X1_verdict n S a0 l4_3).bind fun r14 =>
    jn (fun (j24_2 : Int32) => (F_X1_answeredWith_L4 n S a0 a1 K30 fu j24_2 (l4_3 + (1 : Int32)) : Option Int32)) fun K24 =>
    if r14 = a1 then (K24 (l4_2 + (1 : Int32))) else
    K24 l4_2
def F_X1_answeredWith (n : Nat) (S : aSt) (a0 : Nat) (a1 : Int32) : Option Int32 :=
jn (fun (x30_2 : Int32) => (some x30_2 : Option Int32)) fun K30 =>
F_X1_answeredWith_L4 n S a0 a1 K30 n (0 : Int32) (0 : Int32)
set_option maxHeartbeats 4000000 in
set_option maxRecDepth 100000 in
theorem C_X1_answeredWith (G : aG) (l : Launch) (n : Nat) (S : aSt) (a0 : Nat) (a1 : Int32) (r : Int32) (ha0 : isT a0 0 = true) (hf : F_X1_answeredWith n S a0 a1 = some r) : Ctr G l yX1_answeredWith mX1_answeredWith (rmM 4) 97 97 S [.ref a0, .int a1] (some (.int r)) S := by
  refine Ctr.of (by decide) rfl rfl (Nat.le_of_ble_eq_true rfl) [(0, .ref a0), (1, .int a1)] rfl ?_
  unfold F_X1_answeredWith at hf
  refine Go.iconst (0 : Int32) 1 rfl dX1_answeredWith_0 ci_0 ?_
  refine Go.istore_n 2 [(2, .int (0 : Int32)), (0, .ref a0), (1, .int a1)] rfl dX1_answeredWith_1 (by decide) rfl ?_
  refine Go.iconst (0 : Int32) 3 rfl dX1_answeredWith_2 ci_0 ?_
  refine Go.istore_n 4 [(3, .int (0 : Int32)), (2, .int (0 : Int32)), (0, .ref a0), (1, .int a1)] rfl dX1_answeredWith_3 (by decide) rfl ?_
  obtain ⟨K30, eK30, hf⟩ := f_jn hf
  have J30 : ∀ (x30_2 : Int32), K30 x30_2 = some r → GoM G l 4 (TmR G (some (.int r)) 97 S 0 0) mX1_answeredWith 30 [(2, .int x30_2)] [] S := by
    intro x30_2 hf
    rw [eK30] at hf
    refine Go.iload_n 0 31 rfl dX1_answeredWith_30 rfl ?_
    exact Go.ir rfl dX1_answeredWith_31 hf
  clear eK30
  have L4 : ∀ (fu : Nat) (l4_2 : Int32) (l4_3 : Int32), F_X1_answeredWith_L4 n S a0 a1 K30 fu l4_2 l4_3 = some r → GoM G l 4 (TmR G (some (.int r)) 97 S 0 0) mX1_answeredWith 4 [(0, .ref a0), (1, .int a1), (2, .int l4_2), (3, .int l4_3)] [] S := by
    intro fu
    induction fu with
    | zero => intro l4_2 l4_3 hf; rw [F_X1_answeredWith_L4] at hf; cases hf
    | succ fu ih =>
      intro l4_2 l4_3 hf
      rw [F_X1_answeredWith_L4] at hf
      refine Go.iload_n 3 5 rfl dX1_answeredWith_4 rfl ?_
      refine Go.aload_n 0 6 rfl dX1_answeredWith_5 rfl ?_
      refine Go.getI 9 rfl dX1_answeredWith_6 fl_X1_41 rfl (isT_lt ha0) (isT_sh ha0) ?_
      refine Go.icmp_ge 30 12 rfl dX1_answeredWith_9 rfl (fun hc => ?_) (fun hc => ?_)
      · replace hf := f_if hf hc
        exact Go.sub [2] [(2, .int l4_2)] rfl (J30 l4_2 hf)
      · replace hf := f_el hf hc
        refine Go.aload_n 0 13 rfl dX1_answeredWith_12 rfl ?_
        refine Go.iload_n 3 14 rfl dX1_answeredWith_13 rfl ?_
        obtain ⟨r14, er14, hf⟩ := f_bnd hf
        refine Go.cV 17 [.int l4_3] [] (C_X1_verdict G l n S a0 l4_3 r14 ha0 er14) rfl dX1_answeredWith_14 cv_X1_121 ha0 (by decide) (by decide) rfl (Nat.le_of_ble_eq_true rfl) ?_
        refine Go.iload_n 1 18 rfl dX1_answeredWith_17 rfl ?_
        obtain ⟨K24, eK24, hf⟩ := f_jn hf
        have J24 : ∀ (j24_2 : Int32), K24 j24_2 = some r → GoM G l 4 (TmR G (some (.int r)) 97 S 0 0) mX1_answeredWith 24 [(0, .ref a0), (1, .int a1), (2, .int j24_2), (3, .int l4_3)] [] S := by
          intro j24_2 hf
          rw [eK24] at hf
          refine Go.inc 3 27 (1 : Int32) [(3, .int (l4_3 + (1 : Int32))), (0, .ref a0), (1, .int a1), (2, .int j24_2)] rfl dX1_answeredWith_24 rfl ci_1 (by decide) rfl ?_
          refine Go.goto 4 dX1_answeredWith_27 rfl ?_
          exact Go.sub [1, 2, 3, 0] [(0, .ref a0), (1, .int a1), (2, .int j24_2), (3, .int (l4_3 + (1 : Int32)))] rfl (ih j24_2 (l4_3 + (1 : Int32)) hf)
        clear eK24
        refine Go.icmp_ne 24 21 rfl dX1_answeredWith_18 rfl (fun hc => ?_) (fun hc => ?_)
        · replace hf := f_el hf hc
          exact J24 l4_2 hf
        · replace hf := f_if hf hc
          refine Go.inc 2 24 (1 : Int32) [(2, .int (l4_2 + (1 : Int32))), (0, .ref a0), (1, .int a1), (3, .int l4_3)] rfl dX1_answeredWith_21 rfl ci_1 (by decide) rfl ?_
          exact Go.sub [1, 2, 0, 3] [(0, .ref a0), (1, .int a1), (2, .int (l4_2 + (1 : Int32))), (3, .int l4_3)] rfl (J24 (l4_2 + (1 : Int32)) hf)
  exact Go.sub [2, 3, 1, 0] [(0, .ref a0), (1, .int a1), (2, .int (0 : Int32)), (3, .int (0 : Int32))] rfl (L4 n (0 : Int32) (0 : Int32) hf)
theorem dX1_waysOfTruth_0 : decode cX1_waysOfTruth 0 = .ok (.aload_n 0, 1) := by decide +kernel
theorem dX1_waysOfTruth_1 : decode cX1_waysOfTruth 1 = .ok (.getfield 33, 3) := by decide +kernel
theorem dX1_waysOfTruth_4 : decode cX1_waysOfTruth 4 = .ok (.getfield 118, 3) := by decide +kernel
theorem dX1_waysOfTruth_7 : decode cX1_waysOfTruth 7 = .ok (.iload_n 1, 1) := by decide +kernel
theorem dX1_waysOfTruth_8 : decode cX1_waysOfTruth 8 = .ok (.iaload, 1) := by decide +kernel
theorem dX1_waysOfTruth_9 : decode cX1_waysOfTruth 9 = .ok (.bipush (-9), 2) := by decide +kernel
theorem dX1_waysOfTruth_11 : decode cX1_waysOfTruth 11 = .ok (.if_icmp .eq 17, 3) := by decide +kernel
theorem dX1_waysOfTruth_14 : decode cX1_waysOfTruth 14 = .ok (.aload_n 0, 1) := by decide +kernel
theorem dX1_waysOfTruth_15 : decode cX1_waysOfTruth 15 = .ok (.iload_n 1, 1) := by decide +kernel
theorem dX1_waysOfTruth_16 : decode cX1_waysOfTruth 16 = .ok (.invokevirtual 121, 3) := by decide +kernel
theorem dX1_waysOfTruth_19 : decode cX1_waysOfTruth 19 = .ok (.ifCond .ne 7, 3) := by decide +kernel
theorem dX1_waysOfTruth_22 : decode cX1_waysOfTruth 22 = .ok (.iconst 0, 1) := by decide +kernel
theorem dX1_waysOfTruth_23 : decode cX1_waysOfTruth 23 = .ok (.goto 4, 3) := by decide +kernel
theorem dX1_waysOfTruth_26 : decode cX1_waysOfTruth 26 = .ok (.iconst 1, 1) := by decide +kernel
theorem dX1_waysOfTruth_27 : decode cX1_waysOfTruth 27 = .ok (.ireturn, 1) := by decide +kernel
theorem dX1_waysOfTruth_28 : decode cX1_waysOfTruth 28 = .ok (.aload_n 0, 1) := by decide +kernel
theorem dX1_waysOfTruth_29 : decode cX1_waysOfTruth 29 = .ok (.iload_n 1, 1) := by decide +kernel
theorem dX1_waysOfTruth_30 : decode cX1_waysOfTruth 30 = .ok (.invokevirtual 101, 3) := by decide +kernel
theorem dX1_waysOfTruth_33 : decode cX1_waysOfTruth 33 = .ok (.ifCond .eq 19, 3) := by decide +kernel
theorem dX1_waysOfTruth_36 : decode cX1_waysOfTruth 36 = .ok (.aload_n 0, 1) := by decide +kernel
theorem dX1_waysOfTruth_37 : decode cX1_waysOfTruth 37 = .ok (.getfield 24, 3) := by decide +kernel
theorem dX1_waysOfTruth_40 : decode cX1_waysOfTruth 40 = .ok (.iload_n 1, 1) := by decide +kernel
theorem dX1_waysOfTruth_41 : decode cX1_waysOfTruth 41 = .ok (.iaload, 1) := by decide +kernel
theorem dX1_waysOfTruth_42 : decode cX1_waysOfTruth 42 = .ok (.aload_n 0, 1) := by decide +kernel
theorem dX1_waysOfTruth_43 : decode cX1_waysOfTruth 43 = .ok (.getfield 21, 3) := by decide +kernel
theorem dX1_waysOfTruth_46 : decode cX1_waysOfTruth 46 = .ok (.iload_n 1, 1) := by decide +kernel
theorem dX1_waysOfTruth_47 : decode cX1_waysOfTruth 47 = .ok (.iaload, 1) := by decide +kernel
theorem dX1_waysOfTruth_48 : decode cX1_waysOfTruth 48 = .ok (.isub, 1) := by decide +kernel
theorem dX1_waysOfTruth_49 : decode cX1_waysOfTruth 49 = .ok (.iconst 1, 1) := by decide +kernel
theorem dX1_waysOfTruth_50 : decode cX1_waysOfTruth 50 = .ok (.iadd, 1) := by decide +kernel
theorem dX1_waysOfTruth_51 : decode cX1_waysOfTruth 51 = .ok (.ireturn, 1) := by decide +kernel
theorem dX1_waysOfTruth_52 : decode cX1_waysOfTruth 52 = .ok (.aload_n 0, 1) := by decide +kernel
theorem dX1_waysOfTruth_53 : decode cX1_waysOfTruth 53 = .ok (.aload_n 0, 1) := by decide +kernel
theorem dX1_waysOfTruth_54 : decode cX1_waysOfTruth 54 = .ok (.getfield 33, 3) := by decide +kernel
theorem dX1_waysOfTruth_57 : decode cX1_waysOfTruth 57 = .ok (.getfield 94, 3) := by decide +kernel
theorem dX1_waysOfTruth_60 : decode cX1_waysOfTruth 60 = .ok (.iload_n 1, 1) := by decide +kernel
theorem dX1_waysOfTruth_61 : decode cX1_waysOfTruth 61 = .ok (.iaload, 1) := by decide +kernel
theorem dX1_waysOfTruth_62 : decode cX1_waysOfTruth 62 = .ok (.invokevirtual 108, 3) := by decide +kernel
theorem dX1_waysOfTruth_65 : decode cX1_waysOfTruth 65 = .ok (.istore_n 2, 1) := by decide +kernel
theorem dX1_waysOfTruth_66 : decode cX1_waysOfTruth 66 = .ok (.iload_n 2, 1) := by decide +kernel
theorem dX1_waysOfTruth_67 : decode cX1_waysOfTruth 67 = .ok (.aload_n 0, 1) := by decide +kernel
theorem dX1_waysOfTruth_68 : decode cX1_waysOfTruth 68 = .ok (.getfield 21, 3) := by decide +kernel
theorem dX1_waysOfTruth_71 : decode cX1_waysOfTruth 71 = .ok (.iload_n 1, 1) := by decide +kernel
theorem dX1_waysOfTruth_72 : decode cX1_waysOfTruth 72 = .ok (.iaload, 1) := by decide +kernel
theorem dX1_waysOfTruth_73 : decode cX1_waysOfTruth 73 = .ok (.if_icmp .lt 17, 3) := by decide +kernel
theorem dX1_waysOfTruth_76 : decode cX1_waysOfTruth 76 = .ok (.iload_n 2, 1) := by decide +kernel
theorem dX1_waysOfTruth_77 : decode cX1_waysOfTruth 77 = .ok (.aload_n 0, 1) := by decide +kernel
theorem dX1_waysOfTruth_78 : decode cX1_waysOfTruth 78 = .ok (.getfield 24, 3) := by decide +kernel
theorem dX1_waysOfTruth_81 : decode cX1_waysOfTruth 81 = .ok (.iload_n 1, 1) := by decide +kernel
theorem dX1_waysOfTruth_82 : decode cX1_waysOfTruth 82 = .ok (.iaload, 1) := by decide +kernel
theorem dX1_waysOfTruth_83 : decode cX1_waysOfTruth 83 = .ok (.if_icmp .gt 7, 3) := by decide +kernel
theorem dX1_waysOfTruth_86 : decode cX1_waysOfTruth 86 = .ok (.iconst 1, 1) := by decide +kernel
theorem dX1_waysOfTruth_87 : decode cX1_waysOfTruth 87 = .ok (.goto 4, 3) := by decide +kernel
theorem dX1_waysOfTruth_90 : decode cX1_waysOfTruth 90 = .ok (.iconst 0, 1) := by decide +kernel
theorem dX1_waysOfTruth_91 : decode cX1_waysOfTruth 91 = .ok (.ireturn, 1) := by decide +kernel
def F_X1_waysOfTruth (n : Nat) (S : aSt) (a0 : Nat) (a1 : Int32) : Option Int32 :=
rfd (S.2.2 a0 6) 4 fun k1 =>
rfd (S.2.2 k1 2) 7 fun k4 =>
grd (inb a1 (SH k4).2) <|
if (S.1 k4 a1.toNatClampNeg) = (-9 : Int32) then ((F_X1_isFreeQuestion n S a0 a1).bind fun r30 =>
if r30 = 0 then (rfd (S.2.2 k1 3) 7 fun k57 =>
grd (inb a1 (SH k57).2) <|
(F_X1_meaningOf n S a0 (S.1 k57 a1.toNatClampNeg)).bind fun r62 =>
rfd (S.2.2 a0 3) 7 fun k68 =>
grd (inb a1 (SH k68).2) <|
if r62 < (S.1 k68 a1.toNatClampNeg) then (some (0 : Int32)) else
rfd (S.2.2 a0 4) 7 fun k78 =>
grd (inb a1 (SH k78).2) <|
if (S.1 k78 a1.toNatClampNeg) < r62 then (some (0 : Int32)) else
some (1 : Int32)) else
rfd (S.2.2 a0 4) 7 fun k37 =>
grd (inb a1 (SH k37).2) <|
rfd (S.2.2 a0 3) 7 fun k43 =>
grd (inb a1 (SH k43).2) <|
some (((S.1 k37 a1.toNatClampNeg) - (S.1 k43 a1.toNatClampNeg)) + (1 : Int32))) else
(F_X1_verdict n S a0 a1).bind fun r16 =>
if r16 = 0 then (some (0 : Int32)) else
some (1 : Int32)
set_option maxHeartbeats 4000000 in
set_option maxRecDepth 100000 in
theorem C_X1_waysOfTruth (G : aG) (l : Launch) (n : Nat) (S : aSt) (a0 : Nat) (a1 : Int32) (r : Int32) (ha0 : isT a0 0 = true) (hf : F_X1_waysOfTruth n S a0 a1 = some r) : Ctr G l yX1_waysOfTruth mX1_waysOfTruth (rmM 4) 97 97 S [.ref a0, .int a1] (some (.int r)) S := by
  refine Ctr.of (by decide) rfl rfl (Nat.le_of_ble_eq_true rfl) [(0, .ref a0), (1, .int a1)] rfl ?_
  unfold F_X1_waysOfTruth at hf
  refine Go.aload_n 0 1 rfl dX1_waysOfTruth_0 rfl ?_
  obtain ⟨k1, qk1, hk1, hf⟩ := f_rfd hf
  refine Go.getR 4 rfl dX1_waysOfTruth_1 fl_X1_33 rfl (isT_lt ha0) (isT_sh ha0) qk1 ?_
  obtain ⟨k4, qk4, hk4, hf⟩ := f_rfd hf
  refine Go.getR 7 rfl dX1_waysOfTruth_4 fl_X1_118 rfl (isT_lt hk1) (isT_sh hk1) qk4 ?_
  refine Go.iload_n 1 8 rfl dX1_waysOfTruth_7 rfl ?_
  obtain ⟨g8, hf⟩ := f_grd hf
  refine Go.iald 9 rfl dX1_waysOfTruth_8 (isT_lt hk4) (isT_sh hk4) g8 ?_
  refine Go.bipush (-9 : Int32) 11 rfl dX1_waysOfTruth_9 cb_m9 ?_
  refine Go.icmp_eq 28 14 rfl dX1_waysOfTruth_11 rfl (fun hc => ?_) (fun hc => ?_)
  · replace hf := f_if hf hc
    refine Go.aload_n 0 29 rfl dX1_waysOfTruth_28 rfl ?_
    refine Go.iload_n 1 30 rfl dX1_waysOfTruth_29 rfl ?_
    obtain ⟨r30, er30, hf⟩ := f_bnd hf
    refine Go.cV 33 [.int a1] [] (C_X1_isFreeQuestion G l n S a0 a1 r30 ha0 er30) rfl dX1_waysOfTruth_30 cv_X1_101 ha0 (by decide) (by decide) rfl (Nat.le_of_ble_eq_true rfl) ?_
    refine Go.if_eq 52 36 rfl dX1_waysOfTruth_33 rfl (fun hc => ?_) (fun hc => ?_)
    · replace hf := f_if hf hc
      refine Go.aload_n 0 53 rfl dX1_waysOfTruth_52 rfl ?_
      refine Go.aload_n 0 54 rfl dX1_waysOfTruth_53 rfl ?_
      refine Go.getR 57 rfl dX1_waysOfTruth_54 fl_X1_33 rfl (isT_lt ha0) (isT_sh ha0) qk1 ?_
      obtain ⟨k57, qk57, hk57, hf⟩ := f_rfd hf
      refine Go.getR 60 rfl dX1_waysOfTruth_57 fl_X1_94 rfl (isT_lt hk1) (isT_sh hk1) qk57 ?_
      refine Go.iload_n 1 61 rfl dX1_waysOfTruth_60 rfl ?_
      obtain ⟨g61, hf⟩ := f_grd hf
      refine Go.iald 62 rfl dX1_waysOfTruth_61 (isT_lt hk57) (isT_sh hk57) g61 ?_
      obtain ⟨r62, er62, hf⟩ := f_bnd hf
      refine Go.cV 65 [.int (S.1 k57 a1.toNatClampNeg)] [] (C_X1_meaningOf G l n S a0 (S.1 k57 a1.toNatClampNeg) r62 ha0 er62) rfl dX1_waysOfTruth_62 cv_X1_108 ha0 (by decide) (by decide) rfl (Nat.le_of_ble_eq_true rfl) ?_
      refine Go.istore_n 66 [(2, .int r62), (0, .ref a0), (1, .int a1)] rfl dX1_waysOfTruth_65 (by decide) rfl ?_
      refine Go.iload_n 0 67 rfl dX1_waysOfTruth_66 rfl ?_
      refine Go.aload_n 1 68 rfl dX1_waysOfTruth_67 rfl ?_
      obtain ⟨k68, qk68, hk68, hf⟩ := f_rfd hf
      refine Go.getR 71 rfl dX1_waysOfTruth_68 fl_X1_21 rfl (isT_lt ha0) (isT_sh ha0) qk68 ?_
      refine Go.iload_n 2 72 rfl dX1_waysOfTruth_71 rfl ?_
      obtain ⟨g72, hf⟩ := f_grd hf
      refine Go.iald 73 rfl dX1_waysOfTruth_72 (isT_lt hk68) (isT_sh hk68) g72 ?_
      refine Go.icmp_lt 90 76 rfl dX1_waysOfTruth_73 rfl (fun hc => ?_) (fun hc => ?_)
      · replace hf := f_if hf hc
        refine Go.iconst (0 : Int32) 91 rfl dX1_waysOfTruth_90 ci_0 ?_
        exact Go.ir rfl dX1_waysOfTruth_91 hf
      · replace hf := f_el hf hc
        refine Go.iload_n 0 77 rfl dX1_waysOfTruth_76 rfl ?_
        refine Go.aload_n 1 78 rfl dX1_waysOfTruth_77 rfl ?_
        obtain ⟨k78, qk78, hk78, hf⟩ := f_rfd hf
        refine Go.getR 81 rfl dX1_waysOfTruth_78 fl_X1_24 rfl (isT_lt ha0) (isT_sh ha0) qk78 ?_
        refine Go.iload_n 2 82 rfl dX1_waysOfTruth_81 rfl ?_
        obtain ⟨g82, hf⟩ := f_grd hf
        refine Go.iald 83 rfl dX1_waysOfTruth_82 (isT_lt hk78) (isT_sh hk78) g82 ?_
        refine Go.icmp_gt 90 86 rfl dX1_waysOfTruth_83 rfl (fun hc => ?_) (fun hc => ?_)
        · replace hf := f_if hf hc
          refine Go.iconst (0 : Int32) 91 rfl dX1_waysOfTruth_90 ci_0 ?_
          exact Go.ir rfl dX1_waysOfTruth_91 hf
        · replace hf := f_el hf hc
          refine Go.iconst (1 : Int32) 87 rfl dX1_waysOfTruth_86 ci_1 ?_
          refine Go.goto 91 dX1_waysOfTruth_87 rfl ?_
          exact Go.ir rfl dX1_waysOfTruth_91 hf
    · replace hf := f_el hf hc
      refine Go.aload_n 0 37 rfl dX1_waysOfTruth_36 rfl ?_
      obtain ⟨k37, qk37, hk37, hf⟩ := f_rfd hf
      refine Go.getR 40 rfl dX1_waysOfTruth_37 fl_X1_24 rfl (isT_lt ha0) (isT_sh ha0) qk37 ?_
      refine Go.iload_n 1 41 rfl dX1_waysOfTruth_40 rfl ?_
      obtain ⟨g41, hf⟩ := f_grd hf
      refine Go.iald 42 rfl dX1_waysOfTruth_41 (isT_lt hk37) (isT_sh hk37) g41 ?_
      refine Go.aload_n 0 43 rfl dX1_waysOfTruth_42 rfl ?_
      obtain ⟨k43, qk43, hk43, hf⟩ := f_rfd hf
      refine Go.getR 46 rfl dX1_waysOfTruth_43 fl_X1_21 rfl (isT_lt ha0) (isT_sh ha0) qk43 ?_
      refine Go.iload_n 1 47 rfl dX1_waysOfTruth_46 rfl ?_
      obtain ⟨g47, hf⟩ := f_grd hf
      refine Go.iald 48 rfl dX1_waysOfTruth_47 (isT_lt hk43) (isT_sh hk43) g47 ?_
      refine Go.isub 49 rfl dX1_waysOfTruth_48 ?_
      refine Go.iconst (1 : Int32) 50 rfl dX1_waysOfTruth_49 ci_1 ?_
      refine Go.iadd 51 rfl dX1_waysOfTruth_50 ?_
      exact Go.ir rfl dX1_waysOfTruth_51 hf
  · replace hf := f_el hf hc
    refine Go.aload_n 0 15 rfl dX1_waysOfTruth_14 rfl ?_
    refine Go.iload_n 1 16 rfl dX1_waysOfTruth_15 rfl ?_
    obtain ⟨r16, er16, hf⟩ := f_bnd hf
    refine Go.cV 19 [.int a1] [] (C_X1_verdict G l n S a0 a1 r16 ha0 er16) rfl dX1_waysOfTruth_16 cv_X1_121 ha0 (by decide) (by decide) rfl (Nat.le_of_ble_eq_true rfl) ?_
    refine Go.if_ne 26 22 rfl dX1_waysOfTruth_19 rfl (fun hc => ?_) (fun hc => ?_)
    · replace hf := f_el hf hc
      refine Go.iconst (1 : Int32) 27 rfl dX1_waysOfTruth_26 ci_1 ?_
      exact Go.ir rfl dX1_waysOfTruth_27 hf
    · replace hf := f_if hf hc
      refine Go.iconst (0 : Int32) 23 rfl dX1_waysOfTruth_22 ci_0 ?_
      refine Go.goto 27 dX1_waysOfTruth_23 rfl ?_
      exact Go.ir rfl dX1_waysOfTruth_27 hf
theorem dX1_cardFact_0 : decode cX1_cardFact 0 = .ok (.iload_n 2, 1) := by decide +kernel
theorem dX1_cardFact_1 : decode cX1_cardFact 1 = .ok (.tableswitch 75 0 4 #[35, 42, 49, 55, 65], 35) := by decide +kernel
theorem dX1_cardFact_36 : decode cX1_cardFact 36 = .ok (.aload_n 0, 1) := by decide +kernel
theorem dX1_cardFact_37 : decode cX1_cardFact 37 = .ok (.getfield 9, 3) := by decide +kernel
theorem dX1_cardFact_40 : decode cX1_cardFact 40 = .ok (.iload_n 1, 1) := by decide +kernel
theorem dX1_cardFact_41 : decode cX1_cardFact 41 = .ok (.iaload, 1) := by decide +kernel
theorem dX1_cardFact_42 : decode cX1_cardFact 42 = .ok (.ireturn, 1) := by decide +kernel
theorem dX1_cardFact_43 : decode cX1_cardFact 43 = .ok (.aload_n 0, 1) := by decide +kernel
theorem dX1_cardFact_44 : decode cX1_cardFact 44 = .ok (.getfield 15, 3) := by decide +kernel
theorem dX1_cardFact_47 : decode cX1_cardFact 47 = .ok (.iload_n 1, 1) := by decide +kernel
theorem dX1_cardFact_48 : decode cX1_cardFact 48 = .ok (.iaload, 1) := by decide +kernel
theorem dX1_cardFact_49 : decode cX1_cardFact 49 = .ok (.ireturn, 1) := by decide +kernel
theorem dX1_cardFact_50 : decode cX1_cardFact 50 = .ok (.aload_n 0, 1) := by decide +kernel
theorem dX1_cardFact_51 : decode cX1_cardFact 51 = .ok (.iload_n 1, 1) := by decide +kernel
theorem dX1_cardFact_52 : decode cX1_cardFact 52 = .ok (.invokevirtual 108, 3) := by decide +kernel
theorem dX1_cardFact_55 : decode cX1_cardFact 55 = .ok (.ireturn, 1) := by decide +kernel
theorem dX1_cardFact_56 : decode cX1_cardFact 56 = .ok (.aload_n 0, 1) := by decide +kernel
theorem dX1_cardFact_57 : decode cX1_cardFact 57 = .ok (.getfield 33, 3) := by decide +kernel
theorem dX1_cardFact_60 : decode cX1_cardFact 60 = .ok (.getfield 79, 3) := by decide +kernel
theorem dX1_cardFact_63 : decode cX1_cardFact 63 = .ok (.iload_n 1, 1) := by decide +kernel
theorem dX1_cardFact_64 : decode cX1_cardFact 64 = .ok (.iaload, 1) := by decide +kernel
theorem dX1_cardFact_65 : decode cX1_cardFact 65 = .ok (.ireturn, 1) := by decide +kernel
theorem dX1_cardFact_66 : decode cX1_cardFact 66 = .ok (.aload_n 0, 1) := by decide +kernel
theorem dX1_cardFact_67 : decode cX1_cardFact 67 = .ok (.getfield 33, 3) := by decide +kernel
theorem dX1_cardFact_70 : decode cX1_cardFact 70 = .ok (.getfield 82, 3) := by decide +kernel
theorem dX1_cardFact_73 : decode cX1_cardFact 73 = .ok (.iload_n 1, 1) := by decide +kernel
theorem dX1_cardFact_74 : decode cX1_cardFact 74 = .ok (.iaload, 1) := by decide +kernel
theorem dX1_cardFact_75 : decode cX1_cardFact 75 = .ok (.ireturn, 1) := by decide +kernel
theorem dX1_cardFact_76 : decode cX1_cardFact 76 = .ok (.aload_n 0, 1) := by decide +kernel
theorem dX1_cardFact_77 : decode cX1_cardFact 77 = .ok (.getfield 33, 3) := by decide +kernel
theorem dX1_cardFact_80 : decode cX1_cardFact 80 = .ok (.iload_n 1, 1) := by decide +kernel
theorem dX1_cardFact_81 : decode cX1_cardFact 81 = .ok (.invokevirtual 91, 3) := by decide +kernel
theorem dX1_cardFact_84 : decode cX1_cardFact 84 = .ok (.ireturn, 1) := by decide +kernel
def F_X1_cardFact (n : Nat) (S : aSt) (a0 : Nat) (a1 : Int32) (a2 : Int32) : Option Int32 :=
if a2 = (0 : Int32) then (rfd (S.2.2 a0 0) 7 fun k37 =>
grd (inb a1 (SH k37).2) <|
some (S.1 k37 a1.toNatClampNeg)) else
if a2 = (1 : Int32) then (rfd (S.2.2 a0 1) 7 fun k44 =>
grd (inb a1 (SH k44).2) <|
some (S.1 k44 a1.toNatClampNeg)) else
if a2 = (2 : Int32) then ((F_X1_meaningOf n S a0 a1).bind fun r52 =>
some r52) else
if a2 = (3 : Int32) then (rfd (S.2.2 a0 6) 4 fun k57 =>
rfd (S.2.2 k57 0) 7 fun k60 =>
grd (inb a1 (SH k60).2) <|
some (S.1 k60 a1.toNatClampNeg)) else
if a2 = (4 : Int32) then (rfd (S.2.2 a0 6) 4 fun k67 =>
rfd (S.2.2 k67 1) 7 fun k70 =>
grd (inb a1 (SH k70).2) <|
some (S.1 k70 a1.toNatClampNeg)) else
rfd (S.2.2 a0 6) 4 fun k77 =>
(F_X5_questionOf n S k77 a1).bind fun r81 =>
some r81
set_option maxHeartbeats 4000000 in
set_option maxRecDepth 100000 in
theorem C_X1_cardFact (G : aG) (l : Launch) (n : Nat) (S : aSt) (a0 : Nat) (a1 : Int32) (a2 : Int32) (r : Int32) (ha0 : isT a0 0 = true) (hf : F_X1_cardFact n S a0 a1 a2 = some r) : Ctr G l yX1_cardFact mX1_cardFact (rmM 3) 97 97 S [.ref a0, .int a1, .int a2] (some (.int r)) S := by
  refine Ctr.of (by decide) rfl rfl (Nat.le_of_ble_eq_true rfl) [(0, .ref a0), (1, .int a1), (2, .int a2)] rfl ?_
  unfold F_X1_cardFact at hf
  refine Go.iload_n 2 1 rfl dX1_cardFact_0 rfl ?_
  by_cases hs1_0 : a2 = (0 : Int32)
  · replace hf := f_if hf hs1_0
    refine Go.tin (0 : Int32) 36 hs1_0 dX1_cardFact_1 (by decide) (by decide) rfl rfl ?_
    refine Go.aload_n 0 37 rfl dX1_cardFact_36 rfl ?_
    obtain ⟨k37, qk37, hk37, hf⟩ := f_rfd hf
    refine Go.getR 40 rfl dX1_cardFact_37 fl_X1_9 rfl (isT_lt ha0) (isT_sh ha0) qk37 ?_
    refine Go.iload_n 1 41 rfl dX1_cardFact_40 rfl ?_
    obtain ⟨g41, hf⟩ := f_grd hf
    refine Go.iald 42 rfl dX1_cardFact_41 (isT_lt hk37) (isT_sh hk37) g41 ?_
    exact Go.ir rfl dX1_cardFact_42 hf
  replace hf := f_el hf hs1_0
  by_cases hs1_1 : a2 = (1 : Int32)
  · replace hf := f_if hf hs1_1
    refine Go.tin (1 : Int32) 43 hs1_1 dX1_cardFact_1 (by decide) (by decide) rfl rfl ?_
    refine Go.aload_n 0 44 rfl dX1_cardFact_43 rfl ?_
    obtain ⟨k44, qk44, hk44, hf⟩ := f_rfd hf
    refine Go.getR 47 rfl dX1_cardFact_44 fl_X1_15 rfl (isT_lt ha0) (isT_sh ha0) qk44 ?_
    refine Go.iload_n 1 48 rfl dX1_cardFact_47 rfl ?_
    obtain ⟨g48, hf⟩ := f_grd hf
    refine Go.iald 49 rfl dX1_cardFact_48 (isT_lt hk44) (isT_sh hk44) g48 ?_
    exact Go.ir rfl dX1_cardFact_49 hf
  replace hf := f_el hf hs1_1
  by_cases hs1_2 : a2 = (2 : Int32)
  · replace hf := f_if hf hs1_2
    refine Go.tin (2 : Int32) 50 hs1_2 dX1_cardFact_1 (by decide) (by decide) rfl rfl ?_
    refine Go.aload_n 0 51 rfl dX1_cardFact_50 rfl ?_
    refine Go.iload_n 1 52 rfl dX1_cardFact_51 rfl ?_
    obtain ⟨r52, er52, hf⟩ := f_bnd hf
    refine Go.cV 55 [.int a1] [] (C_X1_meaningOf G l n S a0 a1 r52 ha0 er52) rfl dX1_cardFact_52 cv_X1_108 ha0 (by decide) (by decide) rfl (Nat.le_of_ble_eq_true rfl) ?_
    exact Go.ir rfl dX1_cardFact_55 hf
  replace hf := f_el hf hs1_2
  by_cases hs1_3 : a2 = (3 : Int32)
  · replace hf := f_if hf hs1_3
    refine Go.tin (3 : Int32) 56 hs1_3 dX1_cardFact_1 (by decide) (by decide) rfl rfl ?_
    refine Go.aload_n 0 57 rfl dX1_cardFact_56 rfl ?_
    obtain ⟨k57, qk57, hk57, hf⟩ := f_rfd hf
    refine Go.getR 60 rfl dX1_cardFact_57 fl_X1_33 rfl (isT_lt ha0) (isT_sh ha0) qk57 ?_
    obtain ⟨k60, qk60, hk60, hf⟩ := f_rfd hf
    refine Go.getR 63 rfl dX1_cardFact_60 fl_X1_79 rfl (isT_lt hk57) (isT_sh hk57) qk60 ?_
    refine Go.iload_n 1 64 rfl dX1_cardFact_63 rfl ?_
    obtain ⟨g64, hf⟩ := f_grd hf
    refine Go.iald 65 rfl dX1_cardFact_64 (isT_lt hk60) (isT_sh hk60) g64 ?_
    exact Go.ir rfl dX1_cardFact_65 hf
  replace hf := f_el hf hs1_3
  by_cases hs1_4 : a2 = (4 : Int32)
  · replace hf := f_if hf hs1_4
    refine Go.tin (4 : Int32) 66 hs1_4 dX1_cardFact_1 (by decide) (by decide) rfl rfl ?_
    refine Go.aload_n 0 67 rfl dX1_cardFact_66 rfl ?_
    obtain ⟨k67, qk67, hk67, hf⟩ := f_rfd hf
    refine Go.getR 70 rfl dX1_cardFact_67 fl_X1_33 rfl (isT_lt ha0) (isT_sh ha0) qk67 ?_
    obtain ⟨k70, qk70, hk70, hf⟩ := f_rfd hf
    refine Go.getR 73 rfl dX1_cardFact_70 fl_X1_82 rfl (isT_lt hk67) (isT_sh hk67) qk70 ?_
    refine Go.iload_n 1 74 rfl dX1_cardFact_73 rfl ?_
    obtain ⟨g74, hf⟩ := f_grd hf
    refine Go.iald 75 rfl dX1_cardFact_74 (isT_lt hk70) (isT_sh hk70) g74 ?_
    exact Go.ir rfl dX1_cardFact_75 hf
  replace hf := f_el hf hs1_4
  have nhs1_0 := tsw_ne (z := 0) hs1_0 (by decide)
  have nhs1_1 := tsw_ne (z := 1) hs1_1 (by decide)
  have nhs1_2 := tsw_ne (z := 2) hs1_2 (by decide)
  have nhs1_3 := tsw_ne (z := 3) hs1_3 (by decide)
  have nhs1_4 := tsw_ne (z := 4) hs1_4 (by decide)
  refine Go.tout 76 dX1_cardFact_1 (by omega) rfl ?_
  refine Go.aload_n 0 77 rfl dX1_cardFact_76 rfl ?_
  obtain ⟨k77, qk77, hk77, hf⟩ := f_rfd hf
  refine Go.getR 80 rfl dX1_cardFact_77 fl_X1_33 rfl (isT_lt ha0) (isT_sh ha0) qk77 ?_
  refine Go.iload_n 1 81 rfl dX1_cardFact_80 rfl ?_
  obtain ⟨r81, er81, hf⟩ := f_bnd hf
  refine Go.cV 84 [.int a1] [] (C_X5_questionOf G l n S k77 a1 r81 hk77 er81) rfl dX1_cardFact_81 cv_X1_91 hk77 (by decide) (by decide) rfl (Nat.le_of_ble_eq_true rfl) ?_
  exact Go.ir rfl dX1_cardFact_84 hf
theorem dX1_questionFact_0 : decode cX1_questionFact 0 = .ok (.iload_n 2, 1) := by decide +kernel
theorem dX1_questionFact_1 : decode cX1_questionFact 1 = .ok (.tableswitch 73 0 4 #[35, 42, 49, 56, 63], 35) := by decide +kernel
theorem dX1_questionFact_36 : decode cX1_questionFact 36 = .ok (.aload_n 0, 1) := by decide +kernel
theorem dX1_questionFact_37 : decode cX1_questionFact 37 = .ok (.getfield 18, 3) := by decide +kernel
theorem dX1_questionFact_40 : decode cX1_questionFact 40 = .ok (.iload_n 1, 1) := by decide +kernel
theorem dX1_questionFact_41 : decode cX1_questionFact 41 = .ok (.iaload, 1) := by decide +kernel
theorem dX1_questionFact_42 : decode cX1_questionFact 42 = .ok (.ireturn, 1) := by decide +kernel
theorem dX1_questionFact_43 : decode cX1_questionFact 43 = .ok (.aload_n 0, 1) := by decide +kernel
theorem dX1_questionFact_44 : decode cX1_questionFact 44 = .ok (.getfield 21, 3) := by decide +kernel
theorem dX1_questionFact_47 : decode cX1_questionFact 47 = .ok (.iload_n 1, 1) := by decide +kernel
theorem dX1_questionFact_48 : decode cX1_questionFact 48 = .ok (.iaload, 1) := by decide +kernel
theorem dX1_questionFact_49 : decode cX1_questionFact 49 = .ok (.ireturn, 1) := by decide +kernel
theorem dX1_questionFact_50 : decode cX1_questionFact 50 = .ok (.aload_n 0, 1) := by decide +kernel
theorem dX1_questionFact_51 : decode cX1_questionFact 51 = .ok (.getfield 24, 3) := by decide +kernel
theorem dX1_questionFact_54 : decode cX1_questionFact 54 = .ok (.iload_n 1, 1) := by decide +kernel
theorem dX1_questionFact_55 : decode cX1_questionFact 55 = .ok (.iaload, 1) := by decide +kernel
theorem dX1_questionFact_56 : decode cX1_questionFact 56 = .ok (.ireturn, 1) := by decide +kernel
theorem dX1_questionFact_57 : decode cX1_questionFact 57 = .ok (.aload_n 0, 1) := by decide +kernel
theorem dX1_questionFact_58 : decode cX1_questionFact 58 = .ok (.getfield 27, 3) := by decide +kernel
theorem dX1_questionFact_61 : decode cX1_questionFact 61 = .ok (.iload_n 1, 1) := by decide +kernel
theorem dX1_questionFact_62 : decode cX1_questionFact 62 = .ok (.iaload, 1) := by decide +kernel
theorem dX1_questionFact_63 : decode cX1_questionFact 63 = .ok (.ireturn, 1) := by decide +kernel
theorem dX1_questionFact_64 : decode cX1_questionFact 64 = .ok (.aload_n 0, 1) := by decide +kernel
theorem dX1_questionFact_65 : decode cX1_questionFact 65 = .ok (.getfield 33, 3) := by decide +kernel
theorem dX1_questionFact_68 : decode cX1_questionFact 68 = .ok (.getfield 118, 3) := by decide +kernel
theorem dX1_questionFact_71 : decode cX1_questionFact 71 = .ok (.iload_n 1, 1) := by decide +kernel
theorem dX1_questionFact_72 : decode cX1_questionFact 72 = .ok (.iaload, 1) := by decide +kernel
theorem dX1_questionFact_73 : decode cX1_questionFact 73 = .ok (.ireturn, 1) := by decide +kernel
theorem dX1_questionFact_74 : decode cX1_questionFact 74 = .ok (.aload_n 0, 1) := by decide +kernel
theorem dX1_questionFact_75 : decode cX1_questionFact 75 = .ok (.getfield 33, 3) := by decide +kernel
theorem dX1_questionFact_78 : decode cX1_questionFact 78 = .ok (.getfield 94, 3) := by decide +kernel
theorem dX1_questionFact_81 : decode cX1_questionFact 81 = .ok (.iload_n 1, 1) := by decide +kernel
theorem dX1_questionFact_82 : decode cX1_questionFact 82 = .ok (.iaload, 1) := by decide +kernel
theorem dX1_questionFact_83 : decode cX1_questionFact 83 = .ok (.ireturn, 1) := by decide +kernel
def F_X1_questionFact (n : Nat) (S : aSt) (a0 : Nat) (a1 : Int32) (a2 : Int32) : Option Int32 :=
if a2 = (0 : Int32) then (rfd (S.2.2 a0 2) 7 fun k37 =>
grd (inb a1 (SH k37).2) <|
some (S.1 k37 a1.toNatClampNeg)) else
if a2 = (1 : Int32) then (rfd (S.2.2 a0 3) 7 fun k44 =>
grd (inb a1 (SH k44).2) <|
some (S.1 k44 a1.toNatClampNeg)) else
if a2 = (2 : Int32) then (rfd (S.2.2 a0 4) 7 fun k51 =>
grd (inb a1 (SH k51).2) <|
some (S.1 k51 a1.toNatClampNeg)) else
if a2 = (3 : Int32) then (rfd (S.2.2 a0 5) 7 fun k58 =>
grd (inb a1 (SH k58).2) <|
some (S.1 k58 a1.toNatClampNeg)) else
if a2 = (4 : Int32) then (rfd (S.2.2 a0 6) 4 fun k65 =>
rfd (S.2.2 k65 2) 7 fun k68 =>
grd (inb a1 (SH k68).2) <|
some (S.1 k68 a1.toNatClampNeg)) else
rfd (S.2.2 a0 6) 4 fun k75 =>
rfd (S.2.2 k75 3) 7 fun k78 =>
grd (inb a1 (SH k78).2) <|
some (S.1 k78 a1.toNatClampNeg)
set_option maxHeartbeats 4000000 in
set_option maxRecDepth 100000 in
theorem C_X1_questionFact (G : aG) (l : Launch) (n : Nat) (S : aSt) (a0 : Nat) (a1 : Int32) (a2 : Int32) (r : Int32) (ha0 : isT a0 0 = true) (hf : F_X1_questionFact n S a0 a1 a2 = some r) : Ctr G l yX1_questionFact mX1_questionFact (rmM 1) 97 97 S [.ref a0, .int a1, .int a2] (some (.int r)) S := by
  refine Ctr.of (by decide) rfl rfl (Nat.le_of_ble_eq_true rfl) [(0, .ref a0), (1, .int a1), (2, .int a2)] rfl ?_
  unfold F_X1_questionFact at hf
  refine Go.iload_n 2 1 rfl dX1_questionFact_0 rfl ?_
  by_cases hs1_0 : a2 = (0 : Int32)
  · replace hf := f_if hf hs1_0
    refine Go.tin (0 : Int32) 36 hs1_0 dX1_questionFact_1 (by decide) (by decide) rfl rfl ?_
    refine Go.aload_n 0 37 rfl dX1_questionFact_36 rfl ?_
    obtain ⟨k37, qk37, hk37, hf⟩ := f_rfd hf
    refine Go.getR 40 rfl dX1_questionFact_37 fl_X1_18 rfl (isT_lt ha0) (isT_sh ha0) qk37 ?_
    refine Go.iload_n 1 41 rfl dX1_questionFact_40 rfl ?_
    obtain ⟨g41, hf⟩ := f_grd hf
    refine Go.iald 42 rfl dX1_questionFact_41 (isT_lt hk37) (isT_sh hk37) g41 ?_
    exact Go.ir rfl dX1_questionFact_42 hf
  replace hf := f_el hf hs1_0
  by_cases hs1_1 : a2 = (1 : Int32)
  · replace hf := f_if hf hs1_1
    refine Go.tin (1 : Int32) 43 hs1_1 dX1_questionFact_1 (by decide) (by decide) rfl rfl ?_
    refine Go.aload_n 0 44 rfl dX1_questionFact_43 rfl ?_
    obtain ⟨k44, qk44, hk44, hf⟩ := f_rfd hf
    refine Go.getR 47 rfl dX1_questionFact_44 fl_X1_21 rfl (isT_lt ha0) (isT_sh ha0) qk44 ?_
    refine Go.iload_n 1 48 rfl dX1_questionFact_47 rfl ?_
    obtain ⟨g48, hf⟩ := f_grd hf
    refine Go.iald 49 rfl dX1_questionFact_48 (isT_lt hk44) (isT_sh hk44) g48 ?_
    exact Go.ir rfl dX1_questionFact_49 hf
  replace hf := f_el hf hs1_1
  by_cases hs1_2 : a2 = (2 : Int32)
  · replace hf := f_if hf hs1_2
    refine Go.tin (2 : Int32) 50 hs1_2 dX1_questionFact_1 (by decide) (by decide) rfl rfl ?_
    refine Go.aload_n 0 51 rfl dX1_questionFact_50 rfl ?_
    obtain ⟨k51, qk51, hk51, hf⟩ := f_rfd hf
    refine Go.getR 54 rfl dX1_questionFact_51 fl_X1_24 rfl (isT_lt ha0) (isT_sh ha0) qk51 ?_
    refine Go.iload_n 1 55 rfl dX1_questionFact_54 rfl ?_
    obtain ⟨g55, hf⟩ := f_grd hf
    refine Go.iald 56 rfl dX1_questionFact_55 (isT_lt hk51) (isT_sh hk51) g55 ?_
    exact Go.ir rfl dX1_questionFact_56 hf
  replace hf := f_el hf hs1_2
  by_cases hs1_3 : a2 = (3 : Int32)
  · replace hf := f_if hf hs1_3
    refine Go.tin (3 : Int32) 57 hs1_3 dX1_questionFact_1 (by decide) (by decide) rfl rfl ?_
    refine Go.aload_n 0 58 rfl dX1_questionFact_57 rfl ?_
    obtain ⟨k58, qk58, hk58, hf⟩ := f_rfd hf
    refine Go.getR 61 rfl dX1_questionFact_58 fl_X1_27 rfl (isT_lt ha0) (isT_sh ha0) qk58 ?_
    refine Go.iload_n 1 62 rfl dX1_questionFact_61 rfl ?_
    obtain ⟨g62, hf⟩ := f_grd hf
    refine Go.iald 63 rfl dX1_questionFact_62 (isT_lt hk58) (isT_sh hk58) g62 ?_
    exact Go.ir rfl dX1_questionFact_63 hf
  replace hf := f_el hf hs1_3
  by_cases hs1_4 : a2 = (4 : Int32)
  · replace hf := f_if hf hs1_4
    refine Go.tin (4 : Int32) 64 hs1_4 dX1_questionFact_1 (by decide) (by decide) rfl rfl ?_
    refine Go.aload_n 0 65 rfl dX1_questionFact_64 rfl ?_
    obtain ⟨k65, qk65, hk65, hf⟩ := f_rfd hf
    refine Go.getR 68 rfl dX1_questionFact_65 fl_X1_33 rfl (isT_lt ha0) (isT_sh ha0) qk65 ?_
    obtain ⟨k68, qk68, hk68, hf⟩ := f_rfd hf
    refine Go.getR 71 rfl dX1_questionFact_68 fl_X1_118 rfl (isT_lt hk65) (isT_sh hk65) qk68 ?_
    refine Go.iload_n 1 72 rfl dX1_questionFact_71 rfl ?_
    obtain ⟨g72, hf⟩ := f_grd hf
    refine Go.iald 73 rfl dX1_questionFact_72 (isT_lt hk68) (isT_sh hk68) g72 ?_
    exact Go.ir rfl dX1_questionFact_73 hf
  replace hf := f_el hf hs1_4
  have nhs1_0 := tsw_ne (z := 0) hs1_0 (by decide)
  have nhs1_1 := tsw_ne (z := 1) hs1_1 (by decide)
  have nhs1_2 := tsw_ne (z := 2) hs1_2 (by decide)
  have nhs1_3 := tsw_ne (z := 3) hs1_3 (by decide)
  have nhs1_4 := tsw_ne (z := 4) hs1_4 (by decide)
  refine Go.tout 74 dX1_questionFact_1 (by omega) rfl ?_
  refine Go.aload_n 0 75 rfl dX1_questionFact_74 rfl ?_
  obtain ⟨k75, qk75, hk75, hf⟩ := f_rfd hf
  refine Go.getR 78 rfl dX1_questionFact_75 fl_X1_33 rfl (isT_lt ha0) (isT_sh ha0) qk75 ?_
  obtain ⟨k78, qk78, hk78, hf⟩ := f_rfd hf
  refine Go.getR 81 rfl dX1_questionFact_78 fl_X1_94 rfl (isT_lt hk75) (isT_sh hk75) qk78 ?_
  refine Go.iload_n 1 82 rfl dX1_questionFact_81 rfl ?_
  obtain ⟨g82, hf⟩ := f_grd hf
  refine Go.iald 83 rfl dX1_questionFact_82 (isT_lt hk78) (isT_sh hk78) g82 ?_
  exact Go.ir rfl dX1_questionFact_83 hf
theorem dX1_cardsOn_0 : decode cX1_cardsOn 0 = .ok (.iconst 0, 1) := by decide +kernel
theorem dX1_cardsOn_1 : decode cX1_cardsOn 1 = .ok (.istore_n 2, 1) := by decide +kernel
theorem dX1_cardsOn_2 : decode cX1_cardsOn 2 = .ok (.iconst 0, 1) := by decide +kernel
theorem dX1_cardsOn_3 : decode cX1_cardsOn 3 = .ok (.istore_n 3, 1) := by decide +kernel
theorem dX1_cardsOn_4 : decode cX1_cardsOn 4 = .ok (.iload_n 3, 1) := by decide +kernel
theorem dX1_cardsOn_5 : decode cX1_cardsOn 5 = .ok (.aload_n 0, 1) := by decide +kernel
theorem dX1_cardsOn_6 : decode cX1_cardsOn 6 = .ok (.getfield 37, 3) := by decide +kernel
theorem dX1_cardsOn_9 : decode cX1_cardsOn 9 = .ok (.if_icmp .ge 25, 3) := by decide +kernel
theorem dX1_cardsOn_12 : decode cX1_cardsOn 12 = .ok (.aload_n 0, 1) := by decide +kernel
theorem dX1_cardsOn_13 : decode cX1_cardsOn 13 = .ok (.getfield 33, 3) := by decide +kernel
theorem dX1_cardsOn_16 : decode cX1_cardsOn 16 = .ok (.getfield 79, 3) := by decide +kernel
theorem dX1_cardsOn_19 : decode cX1_cardsOn 19 = .ok (.iload_n 3, 1) := by decide +kernel
theorem dX1_cardsOn_20 : decode cX1_cardsOn 20 = .ok (.iaload, 1) := by decide +kernel
theorem dX1_cardsOn_21 : decode cX1_cardsOn 21 = .ok (.iload_n 1, 1) := by decide +kernel
theorem dX1_cardsOn_22 : decode cX1_cardsOn 22 = .ok (.if_icmp .ne 6, 3) := by decide +kernel
theorem dX1_cardsOn_25 : decode cX1_cardsOn 25 = .ok (.iinc 2 1, 3) := by decide +kernel
theorem dX1_cardsOn_28 : decode cX1_cardsOn 28 = .ok (.iinc 3 1, 3) := by decide +kernel
theorem dX1_cardsOn_31 : decode cX1_cardsOn 31 = .ok (.goto (-27), 3) := by decide +kernel
theorem dX1_cardsOn_34 : decode cX1_cardsOn 34 = .ok (.iload_n 2, 1) := by decide +kernel
theorem dX1_cardsOn_35 : decode cX1_cardsOn 35 = .ok (.ireturn, 1) := by decide +kernel
def F_X1_cardsOn_L4 (S : aSt) (a0 : Nat) (a1 : Int32) (K34 : Int32 → Option Int32) : Nat → Int32 → Int32 → Option Int32
  | 0, _, _ => none
  | fu + 1, l4_2, l4_3 =>
    if (S.1 a0 7) ≤ l4_3 then (K34 l4_2) else
    rfd (S.2.2 a0 6) 4 fun k13 =>
    rfd (S.2.2 k13 0) 7 fun k16 =>
    grd (inb l4_3 (SH k16).2) <|
    jn (fun (j28_2 : Int32) => (F_X1_cardsOn_L4 S a0 a1 K34 fu j28_2 (l4_3 + (1 : Int32)) : Option Int32)) fun K28 =>
    if (S.1 k16 l4_3.toNatClampNeg) = a1 then (K28 (l4_2 + (1 : Int32))) else
    K28 l4_2
def F_X1_cardsOn (n : Nat) (S : aSt) (a0 : Nat) (a1 : Int32) : Option Int32 :=
jn (fun (x34_2 : Int32) => (some x34_2 : Option Int32)) fun K34 =>
F_X1_cardsOn_L4 S a0 a1 K34 n (0 : Int32) (0 : Int32)
set_option maxHeartbeats 4000000 in
set_option maxRecDepth 100000 in
theorem C_X1_cardsOn (G : aG) (l : Launch) (n : Nat) (S : aSt) (a0 : Nat) (a1 : Int32) (r : Int32) (ha0 : isT a0 0 = true) (hf : F_X1_cardsOn n S a0 a1 = some r) : Ctr G l yX1_cardsOn mX1_cardsOn (rmM 1) 97 97 S [.ref a0, .int a1] (some (.int r)) S := by
  refine Ctr.of (by decide) rfl rfl (Nat.le_of_ble_eq_true rfl) [(0, .ref a0), (1, .int a1)] rfl ?_
  unfold F_X1_cardsOn at hf
  refine Go.iconst (0 : Int32) 1 rfl dX1_cardsOn_0 ci_0 ?_
  refine Go.istore_n 2 [(2, .int (0 : Int32)), (0, .ref a0), (1, .int a1)] rfl dX1_cardsOn_1 (by decide) rfl ?_
  refine Go.iconst (0 : Int32) 3 rfl dX1_cardsOn_2 ci_0 ?_
  refine Go.istore_n 4 [(3, .int (0 : Int32)), (2, .int (0 : Int32)), (0, .ref a0), (1, .int a1)] rfl dX1_cardsOn_3 (by decide) rfl ?_
  obtain ⟨K34, eK34, hf⟩ := f_jn hf
  have J34 : ∀ (x34_2 : Int32), K34 x34_2 = some r → GoM G l 1 (TmR G (some (.int r)) 97 S 0 0) mX1_cardsOn 34 [(2, .int x34_2)] [] S := by
    intro x34_2 hf
    rw [eK34] at hf
    refine Go.iload_n 0 35 rfl dX1_cardsOn_34 rfl ?_
    exact Go.ir rfl dX1_cardsOn_35 hf
  clear eK34
  have L4 : ∀ (fu : Nat) (l4_2 : Int32) (l4_3 : Int32), F_X1_cardsOn_L4 S a0 a1 K34 fu l4_2 l4_3 = some r → GoM G l 1 (TmR G (some (.int r)) 97 S 0 0) mX1_cardsOn 4 [(0, .ref a0), (1, .int a1), (2, .int l4_2), (3, .int l4_3)] [] S := by
    intro fu
    induction fu with
    | zero => intro l4_2 l4_3 hf; rw [F_X1_cardsOn_L4] at hf; cases hf
    | succ fu ih =>
      intro l4_2 l4_3 hf
      rw [F_X1_cardsOn_L4] at hf
      refine Go.iload_n 3 5 rfl dX1_cardsOn_4 rfl ?_
      refine Go.aload_n 0 6 rfl dX1_cardsOn_5 rfl ?_
      refine Go.getI 9 rfl dX1_cardsOn_6 fl_X1_37 rfl (isT_lt ha0) (isT_sh ha0) ?_
      refine Go.icmp_ge 34 12 rfl dX1_cardsOn_9 rfl (fun hc => ?_) (fun hc => ?_)
      · replace hf := f_if hf hc
        exact Go.sub [2] [(2, .int l4_2)] rfl (J34 l4_2 hf)
      · replace hf := f_el hf hc
        refine Go.aload_n 0 13 rfl dX1_cardsOn_12 rfl ?_
        obtain ⟨k13, qk13, hk13, hf⟩ := f_rfd hf
        refine Go.getR 16 rfl dX1_cardsOn_13 fl_X1_33 rfl (isT_lt ha0) (isT_sh ha0) qk13 ?_
        obtain ⟨k16, qk16, hk16, hf⟩ := f_rfd hf
        refine Go.getR 19 rfl dX1_cardsOn_16 fl_X1_79 rfl (isT_lt hk13) (isT_sh hk13) qk16 ?_
        refine Go.iload_n 3 20 rfl dX1_cardsOn_19 rfl ?_
        obtain ⟨g20, hf⟩ := f_grd hf
        refine Go.iald 21 rfl dX1_cardsOn_20 (isT_lt hk16) (isT_sh hk16) g20 ?_
        refine Go.iload_n 1 22 rfl dX1_cardsOn_21 rfl ?_
        obtain ⟨K28, eK28, hf⟩ := f_jn hf
        have J28 : ∀ (j28_2 : Int32), K28 j28_2 = some r → GoM G l 1 (TmR G (some (.int r)) 97 S 0 0) mX1_cardsOn 28 [(0, .ref a0), (1, .int a1), (2, .int j28_2), (3, .int l4_3)] [] S := by
          intro j28_2 hf
          rw [eK28] at hf
          refine Go.inc 3 31 (1 : Int32) [(3, .int (l4_3 + (1 : Int32))), (0, .ref a0), (1, .int a1), (2, .int j28_2)] rfl dX1_cardsOn_28 rfl ci_1 (by decide) rfl ?_
          refine Go.goto 4 dX1_cardsOn_31 rfl ?_
          exact Go.sub [1, 2, 3, 0] [(0, .ref a0), (1, .int a1), (2, .int j28_2), (3, .int (l4_3 + (1 : Int32)))] rfl (ih j28_2 (l4_3 + (1 : Int32)) hf)
        clear eK28
        refine Go.icmp_ne 28 25 rfl dX1_cardsOn_22 rfl (fun hc => ?_) (fun hc => ?_)
        · replace hf := f_el hf hc
          exact J28 l4_2 hf
        · replace hf := f_if hf hc
          refine Go.inc 2 28 (1 : Int32) [(2, .int (l4_2 + (1 : Int32))), (0, .ref a0), (1, .int a1), (3, .int l4_3)] rfl dX1_cardsOn_25 rfl ci_1 (by decide) rfl ?_
          exact Go.sub [1, 2, 0, 3] [(0, .ref a0), (1, .int a1), (2, .int (l4_2 + (1 : Int32))), (3, .int l4_3)] rfl (J28 (l4_2 + (1 : Int32)) hf)
  exact Go.sub [2, 3, 1, 0] [(0, .ref a0), (1, .int a1), (2, .int (0 : Int32)), (3, .int (0 : Int32))] rfl (L4 n (0 : Int32) (0 : Int32) hf)
theorem dX1_placesSaying_0 : decode cX1_placesSaying 0 = .ok (.iconst 0, 1) := by decide +kernel
theorem dX1_placesSaying_1 : decode cX1_placesSaying 1 = .ok (.istore_n 2, 1) := by decide +kernel
theorem dX1_placesSaying_2 : decode cX1_placesSaying 2 = .ok (.iconst 0, 1) := by decide +kernel
theorem dX1_placesSaying_3 : decode cX1_placesSaying 3 = .ok (.istore_n 3, 1) := by decide +kernel
theorem dX1_placesSaying_4 : decode cX1_placesSaying 4 = .ok (.iload_n 3, 1) := by decide +kernel
theorem dX1_placesSaying_5 : decode cX1_placesSaying 5 = .ok (.aload_n 0, 1) := by decide +kernel
theorem dX1_placesSaying_6 : decode cX1_placesSaying 6 = .ok (.getfield 37, 3) := by decide +kernel
theorem dX1_placesSaying_9 : decode cX1_placesSaying 9 = .ok (.if_icmp .ge 35, 3) := by decide +kernel
theorem dX1_placesSaying_12 : decode cX1_placesSaying 12 = .ok (.aload_n 0, 1) := by decide +kernel
theorem dX1_placesSaying_13 : decode cX1_placesSaying 13 = .ok (.getfield 9, 3) := by decide +kernel
theorem dX1_placesSaying_16 : decode cX1_placesSaying 16 = .ok (.iload_n 3, 1) := by decide +kernel
theorem dX1_placesSaying_17 : decode cX1_placesSaying 17 = .ok (.iaload, 1) := by decide +kernel
theorem dX1_placesSaying_18 : decode cX1_placesSaying 18 = .ok (.iconst 2, 1) := by decide +kernel
theorem dX1_placesSaying_19 : decode cX1_placesSaying 19 = .ok (.invokestatic 111, 3) := by decide +kernel
theorem dX1_placesSaying_22 : decode cX1_placesSaying 22 = .ok (.ifCond .eq 16, 3) := by decide +kernel
theorem dX1_placesSaying_25 : decode cX1_placesSaying 25 = .ok (.aload_n 0, 1) := by decide +kernel
theorem dX1_placesSaying_26 : decode cX1_placesSaying 26 = .ok (.getfield 15, 3) := by decide +kernel
theorem dX1_placesSaying_29 : decode cX1_placesSaying 29 = .ok (.iload_n 3, 1) := by decide +kernel
theorem dX1_placesSaying_30 : decode cX1_placesSaying 30 = .ok (.iaload, 1) := by decide +kernel
theorem dX1_placesSaying_31 : decode cX1_placesSaying 31 = .ok (.iload_n 1, 1) := by decide +kernel
theorem dX1_placesSaying_32 : decode cX1_placesSaying 32 = .ok (.if_icmp .ne 6, 3) := by decide +kernel
theorem dX1_placesSaying_35 : decode cX1_placesSaying 35 = .ok (.iinc 2 1, 3) := by decide +kernel
theorem dX1_placesSaying_38 : decode cX1_placesSaying 38 = .ok (.iinc 3 1, 3) := by decide +kernel
theorem dX1_placesSaying_41 : decode cX1_placesSaying 41 = .ok (.goto (-37), 3) := by decide +kernel
theorem dX1_placesSaying_44 : decode cX1_placesSaying 44 = .ok (.iload_n 2, 1) := by decide +kernel
theorem dX1_placesSaying_45 : decode cX1_placesSaying 45 = .ok (.ireturn, 1) := by decide +kernel
def F_X1_placesSaying_L4 (n : Nat) (S : aSt) (a0 : Nat) (a1 : Int32) (K44 : Int32 → Option Int32) : Nat → Int32 → Int32 → Option Int32
  | 0, _, _ => none
  | fu + 1, l4_2, l4_3 =>
    if (S.1 a0 7) ≤ l4_3 then (K44 l4_2) else
    rfd (S.2.2 a0 0) 7 fun k13 =>
    grd (inb l4_3 (SH k13).2) <|
    (F_X0_isA n S (S.1 k13 l4_3.toNatClampNeg) (2 : Int32)).bind fun r19 =>
    jn (fun (j38_2 : Int32) => (F_X1_placesSaying_L4 n S a0 a1 K44 fu j38_2 (l4_3 + (1 : Int32)) : Option Int32)) fun K38 =>
    if r19 = 0 then (K38 l4_2) else
    rfd (S.2.2 a0 1) 7 fun k26 =>
    grd (inb l4_3 (SH k26).2) <|
    if (S.1 k26 l4_3.toNatClampNeg) = a1 then (K38 (l4_2 + (1 : Int32))) else
    K38 l4_2
def F_X1_placesSaying (n : Nat) (S : aSt) (a0 : Nat) (a1 : Int32) : Option Int32 :=
jn (fun (x44_2 : Int32) => (some x44_2 : Option Int32)) fun K44 =>
F_X1_placesSaying_L4 n S a0 a1 K44 n (0 : Int32) (0 : Int32)
set_option maxHeartbeats 4000000 in
set_option maxRecDepth 100000 in
theorem C_X1_placesSaying (G : aG) (l : Launch) (n : Nat) (S : aSt) (a0 : Nat) (a1 : Int32) (r : Int32) (ha0 : isT a0 0 = true) (hf : F_X1_placesSaying n S a0 a1 = some r) : Ctr G l yX1_placesSaying mX1_placesSaying (rmM 2) 97 97 S [.ref a0, .int a1] (some (.int r)) S := by
  refine Ctr.of (by decide) rfl rfl (Nat.le_of_ble_eq_true rfl) [(0, .ref a0), (1, .int a1)] rfl ?_
  unfold F_X1_placesSaying at hf
  refine Go.iconst (0 : Int32) 1 rfl dX1_placesSaying_0 ci_0 ?_
  refine Go.istore_n 2 [(2, .int (0 : Int32)), (0, .ref a0), (1, .int a1)] rfl dX1_placesSaying_1 (by decide) rfl ?_
  refine Go.iconst (0 : Int32) 3 rfl dX1_placesSaying_2 ci_0 ?_
  refine Go.istore_n 4 [(3, .int (0 : Int32)), (2, .int (0 : Int32)), (0, .ref a0), (1, .int a1)] rfl dX1_placesSaying_3 (by decide) rfl ?_
  obtain ⟨K44, eK44, hf⟩ := f_jn hf
  have J44 : ∀ (x44_2 : Int32), K44 x44_2 = some r → GoM G l 2 (TmR G (some (.int r)) 97 S 0 0) mX1_placesSaying 44 [(2, .int x44_2)] [] S := by
    intro x44_2 hf
    rw [eK44] at hf
    refine Go.iload_n 0 45 rfl dX1_placesSaying_44 rfl ?_
    exact Go.ir rfl dX1_placesSaying_45 hf
  clear eK44
  have L4 : ∀ (fu : Nat) (l4_2 : Int32) (l4_3 : Int32), F_X1_placesSaying_L4 n S a0 a1 K44 fu l4_2 l4_3 = some r → GoM G l 2 (TmR G (some (.int r)) 97 S 0 0) mX1_placesSaying 4 [(0, .ref a0), (1, .int a1), (2, .int l4_2), (3, .int l4_3)] [] S := by
    intro fu
    induction fu with
    | zero => intro l4_2 l4_3 hf; rw [F_X1_placesSaying_L4] at hf; cases hf
    | succ fu ih =>
      intro l4_2 l4_3 hf
      rw [F_X1_placesSaying_L4] at hf
      refine Go.iload_n 3 5 rfl dX1_placesSaying_4 rfl ?_
      refine Go.aload_n 0 6 rfl dX1_placesSaying_5 rfl ?_
      refine Go.getI 9 rfl dX1_placesSaying_6 fl_X1_37 rfl (isT_lt ha0) (isT_sh ha0) ?_
      refine Go.icmp_ge 44 12 rfl dX1_placesSaying_9 rfl (fun hc => ?_) (fun hc => ?_)
      · replace hf := f_if hf hc
        exact Go.sub [2] [(2, .int l4_2)] rfl (J44 l4_2 hf)
      · replace hf := f_el hf hc
        refine Go.aload_n 0 13 rfl dX1_placesSaying_12 rfl ?_
        obtain ⟨k13, qk13, hk13, hf⟩ := f_rfd hf
        refine Go.getR 16 rfl dX1_placesSaying_13 fl_X1_9 rfl (isT_lt ha0) (isT_sh ha0) qk13 ?_
        refine Go.iload_n 3 17 rfl dX1_placesSaying_16 rfl ?_
        obtain ⟨g17, hf⟩ := f_grd hf
        refine Go.iald 18 rfl dX1_placesSaying_17 (isT_lt hk13) (isT_sh hk13) g17 ?_
        refine Go.iconst (2 : Int32) 19 rfl dX1_placesSaying_18 ci_2 ?_
        obtain ⟨r19, er19, hf⟩ := f_bnd hf
        refine Go.cS 22 [.int (S.1 k13 l4_3.toNatClampNeg), .int (2 : Int32)] [] (C_X0_isA G l n S (S.1 k13 l4_3.toNatClampNeg) (2 : Int32) r19  er19) rfl dX1_placesSaying_19 cx_X1_111 (by decide) (by decide) rfl (Nat.le_of_ble_eq_true rfl) ?_
        obtain ⟨K38, eK38, hf⟩ := f_jn hf
        have J38 : ∀ (j38_2 : Int32), K38 j38_2 = some r → GoM G l 2 (TmR G (some (.int r)) 97 S 0 0) mX1_placesSaying 38 [(0, .ref a0), (1, .int a1), (2, .int j38_2), (3, .int l4_3)] [] S := by
          intro j38_2 hf
          rw [eK38] at hf
          refine Go.inc 3 41 (1 : Int32) [(3, .int (l4_3 + (1 : Int32))), (0, .ref a0), (1, .int a1), (2, .int j38_2)] rfl dX1_placesSaying_38 rfl ci_1 (by decide) rfl ?_
          refine Go.goto 4 dX1_placesSaying_41 rfl ?_
          exact Go.sub [1, 2, 3, 0] [(0, .ref a0), (1, .int a1), (2, .int j38_2), (3, .int (l4_3 + (1 : Int32)))] rfl (ih j38_2 (l4_3 + (1 : Int32)) hf)
        clear eK38
        refine Go.if_eq 38 25 rfl dX1_placesSaying_22 rfl (fun hc => ?_) (fun hc => ?_)
        · replace hf := f_if hf hc
          exact J38 l4_2 hf
        · replace hf := f_el hf hc
          refine Go.aload_n 0 26 rfl dX1_placesSaying_25 rfl ?_
          obtain ⟨k26, qk26, hk26, hf⟩ := f_rfd hf
          refine Go.getR 29 rfl dX1_placesSaying_26 fl_X1_15 rfl (isT_lt ha0) (isT_sh ha0) qk26 ?_
          refine Go.iload_n 3 30 rfl dX1_placesSaying_29 rfl ?_
          obtain ⟨g30, hf⟩ := f_grd hf
          refine Go.iald 31 rfl dX1_placesSaying_30 (isT_lt hk26) (isT_sh hk26) g30 ?_
          refine Go.iload_n 1 32 rfl dX1_placesSaying_31 rfl ?_
          refine Go.icmp_ne 38 35 rfl dX1_placesSaying_32 rfl (fun hc => ?_) (fun hc => ?_)
          · replace hf := f_el hf hc
            exact J38 l4_2 hf
          · replace hf := f_if hf hc
            refine Go.inc 2 38 (1 : Int32) [(2, .int (l4_2 + (1 : Int32))), (0, .ref a0), (1, .int a1), (3, .int l4_3)] rfl dX1_placesSaying_35 rfl ci_1 (by decide) rfl ?_
            exact Go.sub [1, 2, 0, 3] [(0, .ref a0), (1, .int a1), (2, .int (l4_2 + (1 : Int32))), (3, .int l4_3)] rfl (J38 (l4_2 + (1 : Int32)) hf)
  exact Go.sub [2, 3, 1, 0] [(0, .ref a0), (1, .int a1), (2, .int (0 : Int32)), (3, .int (0 : Int32))] rfl (L4 n (0 : Int32) (0 : Int32) hf)
theorem dX1_yesMeaning_0 : decode cX1_yesMeaning 0 = .ok (.iconst 0, 1) := by decide +kernel
theorem dX1_yesMeaning_1 : decode cX1_yesMeaning 1 = .ok (.istore_n 2, 1) := by decide +kernel
theorem dX1_yesMeaning_2 : decode cX1_yesMeaning 2 = .ok (.iconst 0, 1) := by decide +kernel
theorem dX1_yesMeaning_3 : decode cX1_yesMeaning 3 = .ok (.istore_n 3, 1) := by decide +kernel
theorem dX1_yesMeaning_4 : decode cX1_yesMeaning 4 = .ok (.iload_n 3, 1) := by decide +kernel
theorem dX1_yesMeaning_5 : decode cX1_yesMeaning 5 = .ok (.aload_n 0, 1) := by decide +kernel
theorem dX1_yesMeaning_6 : decode cX1_yesMeaning 6 = .ok (.getfield 37, 3) := by decide +kernel
theorem dX1_yesMeaning_9 : decode cX1_yesMeaning 9 = .ok (.if_icmp .ge 34, 3) := by decide +kernel
theorem dX1_yesMeaning_12 : decode cX1_yesMeaning 12 = .ok (.aload_n 0, 1) := by decide +kernel
theorem dX1_yesMeaning_13 : decode cX1_yesMeaning 13 = .ok (.getfield 9, 3) := by decide +kernel
theorem dX1_yesMeaning_16 : decode cX1_yesMeaning 16 = .ok (.iload_n 3, 1) := by decide +kernel
theorem dX1_yesMeaning_17 : decode cX1_yesMeaning 17 = .ok (.iaload, 1) := by decide +kernel
theorem dX1_yesMeaning_18 : decode cX1_yesMeaning 18 = .ok (.iconst 1, 1) := by decide +kernel
theorem dX1_yesMeaning_19 : decode cX1_yesMeaning 19 = .ok (.invokestatic 111, 3) := by decide +kernel
theorem dX1_yesMeaning_22 : decode cX1_yesMeaning 22 = .ok (.ifCond .eq 15, 3) := by decide +kernel
theorem dX1_yesMeaning_25 : decode cX1_yesMeaning 25 = .ok (.aload_n 0, 1) := by decide +kernel
theorem dX1_yesMeaning_26 : decode cX1_yesMeaning 26 = .ok (.iload_n 3, 1) := by decide +kernel
theorem dX1_yesMeaning_27 : decode cX1_yesMeaning 27 = .ok (.invokevirtual 108, 3) := by decide +kernel
theorem dX1_yesMeaning_30 : decode cX1_yesMeaning 30 = .ok (.iload_n 1, 1) := by decide +kernel
theorem dX1_yesMeaning_31 : decode cX1_yesMeaning 31 = .ok (.if_icmp .ne 6, 3) := by decide +kernel
theorem dX1_yesMeaning_34 : decode cX1_yesMeaning 34 = .ok (.iinc 2 1, 3) := by decide +kernel
theorem dX1_yesMeaning_37 : decode cX1_yesMeaning 37 = .ok (.iinc 3 1, 3) := by decide +kernel
theorem dX1_yesMeaning_40 : decode cX1_yesMeaning 40 = .ok (.goto (-36), 3) := by decide +kernel
theorem dX1_yesMeaning_43 : decode cX1_yesMeaning 43 = .ok (.iload_n 2, 1) := by decide +kernel
theorem dX1_yesMeaning_44 : decode cX1_yesMeaning 44 = .ok (.ireturn, 1) := by decide +kernel
def F_X1_yesMeaning_L4 (n : Nat) (S : aSt) (a0 : Nat) (a1 : Int32) (K43 : Int32 → Option Int32) : Nat → Int32 → Int32 → Option Int32
  | 0, _, _ => none
  | fu + 1, l4_2, l4_3 =>
    if (S.1 a0 7) ≤ l4_3 then (K43 l4_2) else
    rfd (S.2.2 a0 0) 7 fun k13 =>
    grd (inb l4_3 (SH k13).2) <|
    (F_X0_isA n S (S.1 k13 l4_3.toNatClampNeg) (1 : Int32)).bind fun r19 =>
    jn (fun (j37_2 : Int32) => (F_X1_yesMeaning_L4 n S a0 a1 K43 fu j37_2 (l4_3 + (1 : Int32)) : Option Int32)) fun K37 =>
    if r19 = 0 then (K37 l4_2) else
    (F_X1_meaningOf n S a0 l4_3).bind fun r27 =>
    if r27 = a1 then (K37 (l4_2 + (1 : Int32))) else
    K37 l4_2
def F_X1_yesMeaning (n : Nat) (S : aSt) (a0 : Nat) (a1 : Int32) : Option Int32 :=
jn (fun (x43_2 : Int32) => (some x43_2 : Option Int32)) fun K43 =>
F_X1_yesMeaning_L4 n S a0 a1 K43 n (0 : Int32) (0 : Int32)
set_option maxHeartbeats 4000000 in
set_option maxRecDepth 100000 in
theorem C_X1_yesMeaning (G : aG) (l : Launch) (n : Nat) (S : aSt) (a0 : Nat) (a1 : Int32) (r : Int32) (ha0 : isT a0 0 = true) (hf : F_X1_yesMeaning n S a0 a1 = some r) : Ctr G l yX1_yesMeaning mX1_yesMeaning (rmM 3) 97 97 S [.ref a0, .int a1] (some (.int r)) S := by
  refine Ctr.of (by decide) rfl rfl (Nat.le_of_ble_eq_true rfl) [(0, .ref a0), (1, .int a1)] rfl ?_
  unfold F_X1_yesMeaning at hf
  refine Go.iconst (0 : Int32) 1 rfl dX1_yesMeaning_0 ci_0 ?_
  refine Go.istore_n 2 [(2, .int (0 : Int32)), (0, .ref a0), (1, .int a1)] rfl dX1_yesMeaning_1 (by decide) rfl ?_
  refine Go.iconst (0 : Int32) 3 rfl dX1_yesMeaning_2 ci_0 ?_
  refine Go.istore_n 4 [(3, .int (0 : Int32)), (2, .int (0 : Int32)), (0, .ref a0), (1, .int a1)] rfl dX1_yesMeaning_3 (by decide) rfl ?_
  obtain ⟨K43, eK43, hf⟩ := f_jn hf
  have J43 : ∀ (x43_2 : Int32), K43 x43_2 = some r → GoM G l 3 (TmR G (some (.int r)) 97 S 0 0) mX1_yesMeaning 43 [(2, .int x43_2)] [] S := by
    intro x43_2 hf
    rw [eK43] at hf
    refine Go.iload_n 0 44 rfl dX1_yesMeaning_43 rfl ?_
    exact Go.ir rfl dX1_yesMeaning_44 hf
  clear eK43
  have L4 : ∀ (fu : Nat) (l4_2 : Int32) (l4_3 : Int32), F_X1_yesMeaning_L4 n S a0 a1 K43 fu l4_2 l4_3 = some r → GoM G l 3 (TmR G (some (.int r)) 97 S 0 0) mX1_yesMeaning 4 [(0, .ref a0), (1, .int a1), (2, .int l4_2), (3, .int l4_3)] [] S := by
    intro fu
    induction fu with
    | zero => intro l4_2 l4_3 hf; rw [F_X1_yesMeaning_L4] at hf; cases hf
    | succ fu ih =>
      intro l4_2 l4_3 hf
      rw [F_X1_yesMeaning_L4] at hf
      refine Go.iload_n 3 5 rfl dX1_yesMeaning_4 rfl ?_
      refine Go.aload_n 0 6 rfl dX1_yesMeaning_5 rfl ?_
      refine Go.getI 9 rfl dX1_yesMeaning_6 fl_X1_37 rfl (isT_lt ha0) (isT_sh ha0) ?_
      refine Go.icmp_ge 43 12 rfl dX1_yesMeaning_9 rfl (fun hc => ?_) (fun hc => ?_)
      · replace hf := f_if hf hc
        exact Go.sub [2] [(2, .int l4_2)] rfl (J43 l4_2 hf)
      · replace hf := f_el hf hc
        refine Go.aload_n 0 13 rfl dX1_yesMeaning_12 rfl ?_
        obtain ⟨k13, qk13, hk13, hf⟩ := f_rfd hf
        refine Go.getR 16 rfl dX1_yesMeaning_13 fl_X1_9 rfl (isT_lt ha0) (isT_sh ha0) qk13 ?_
        refine Go.iload_n 3 17 rfl dX1_yesMeaning_16 rfl ?_
        obtain ⟨g17, hf⟩ := f_grd hf
        refine Go.iald 18 rfl dX1_yesMeaning_17 (isT_lt hk13) (isT_sh hk13) g17 ?_
        refine Go.iconst (1 : Int32) 19 rfl dX1_yesMeaning_18 ci_1 ?_
        obtain ⟨r19, er19, hf⟩ := f_bnd hf
        refine Go.cS 22 [.int (S.1 k13 l4_3.toNatClampNeg), .int (1 : Int32)] [] (C_X0_isA G l n S (S.1 k13 l4_3.toNatClampNeg) (1 : Int32) r19  er19) rfl dX1_yesMeaning_19 cx_X1_111 (by decide) (by decide) rfl (Nat.le_of_ble_eq_true rfl) ?_
        obtain ⟨K37, eK37, hf⟩ := f_jn hf
        have J37 : ∀ (j37_2 : Int32), K37 j37_2 = some r → GoM G l 3 (TmR G (some (.int r)) 97 S 0 0) mX1_yesMeaning 37 [(0, .ref a0), (1, .int a1), (2, .int j37_2), (3, .int l4_3)] [] S := by
          intro j37_2 hf
          rw [eK37] at hf
          refine Go.inc 3 40 (1 : Int32) [(3, .int (l4_3 + (1 : Int32))), (0, .ref a0), (1, .int a1), (2, .int j37_2)] rfl dX1_yesMeaning_37 rfl ci_1 (by decide) rfl ?_
          refine Go.goto 4 dX1_yesMeaning_40 rfl ?_
          exact Go.sub [1, 2, 3, 0] [(0, .ref a0), (1, .int a1), (2, .int j37_2), (3, .int (l4_3 + (1 : Int32)))] rfl (ih j37_2 (l4_3 + (1 : Int32)) hf)
        clear eK37
        refine Go.if_eq 37 25 rfl dX1_yesMeaning_22 rfl (fun hc => ?_) (fun hc => ?_)
        · replace hf := f_if hf hc
          exact J37 l4_2 hf
        · replace hf := f_el hf hc
          refine Go.aload_n 0 26 rfl dX1_yesMeaning_25 rfl ?_
          refine Go.iload_n 3 27 rfl dX1_yesMeaning_26 rfl ?_
          obtain ⟨r27, er27, hf⟩ := f_bnd hf
          refine Go.cV 30 [.int l4_3] [] (C_X1_meaningOf G l n S a0 l4_3 r27 ha0 er27) rfl dX1_yesMeaning_27 cv_X1_108 ha0 (by decide) (by decide) rfl (Nat.le_of_ble_eq_true rfl) ?_
          refine Go.iload_n 1 31 rfl dX1_yesMeaning_30 rfl ?_
          refine Go.icmp_ne 37 34 rfl dX1_yesMeaning_31 rfl (fun hc => ?_) (fun hc => ?_)
          · replace hf := f_el hf hc
            exact J37 l4_2 hf
          · replace hf := f_if hf hc
            refine Go.inc 2 37 (1 : Int32) [(2, .int (l4_2 + (1 : Int32))), (0, .ref a0), (1, .int a1), (3, .int l4_3)] rfl dX1_yesMeaning_34 rfl ci_1 (by decide) rfl ?_
            exact Go.sub [1, 2, 0, 3] [(0, .ref a0), (1, .int a1), (2, .int (l4_2 + (1 : Int32))), (3, .int l4_3)] rfl (J37 (l4_2 + (1 : Int32)) hf)
  exact Go.sub [2, 3, 1, 0] [(0, .ref a0), (1, .int a1), (2, .int (0 : Int32)), (3, .int (0 : Int32))] rfl (L4 n (0 : Int32) (0 : Int32) hf)
theorem dX1_markOf_0 : decode cX1_markOf 0 = .ok (.iload_n 2, 1) := by decide +kernel
theorem dX1_markOf_1 : decode cX1_markOf 1 = .ok (.tableswitch 79 1 4 #[31, 41, 57, 63], 31) := by decide +kernel
theorem dX1_markOf_32 : decode cX1_markOf 32 = .ok (.aload_n 0, 1) := by decide +kernel
theorem dX1_markOf_33 : decode cX1_markOf 33 = .ok (.aload_n 0, 1) := by decide +kernel
theorem dX1_markOf_34 : decode cX1_markOf 34 = .ok (.iload_n 1, 1) := by decide +kernel
theorem dX1_markOf_35 : decode cX1_markOf 35 = .ok (.invokevirtual 108, 3) := by decide +kernel
theorem dX1_markOf_38 : decode cX1_markOf 38 = .ok (.invokevirtual 124, 3) := by decide +kernel
theorem dX1_markOf_41 : decode cX1_markOf 41 = .ok (.ireturn, 1) := by decide +kernel
theorem dX1_markOf_42 : decode cX1_markOf 42 = .ok (.aload_n 0, 1) := by decide +kernel
theorem dX1_markOf_43 : decode cX1_markOf 43 = .ok (.aload_n 0, 1) := by decide +kernel
theorem dX1_markOf_44 : decode cX1_markOf 44 = .ok (.getfield 33, 3) := by decide +kernel
theorem dX1_markOf_47 : decode cX1_markOf 47 = .ok (.getfield 79, 3) := by decide +kernel
theorem dX1_markOf_50 : decode cX1_markOf 50 = .ok (.iload_n 1, 1) := by decide +kernel
theorem dX1_markOf_51 : decode cX1_markOf 51 = .ok (.iaload, 1) := by decide +kernel
theorem dX1_markOf_52 : decode cX1_markOf 52 = .ok (.invokevirtual 127, 3) := by decide +kernel
theorem dX1_markOf_55 : decode cX1_markOf 55 = .ok (.iconst 1, 1) := by decide +kernel
theorem dX1_markOf_56 : decode cX1_markOf 56 = .ok (.isub, 1) := by decide +kernel
theorem dX1_markOf_57 : decode cX1_markOf 57 = .ok (.ireturn, 1) := by decide +kernel
theorem dX1_markOf_58 : decode cX1_markOf 58 = .ok (.aload_n 0, 1) := by decide +kernel
theorem dX1_markOf_59 : decode cX1_markOf 59 = .ok (.iload_n 1, 1) := by decide +kernel
theorem dX1_markOf_60 : decode cX1_markOf 60 = .ok (.invokevirtual 130, 3) := by decide +kernel
theorem dX1_markOf_63 : decode cX1_markOf 63 = .ok (.ireturn, 1) := by decide +kernel
theorem dX1_markOf_64 : decode cX1_markOf 64 = .ok (.aload_n 0, 1) := by decide +kernel
theorem dX1_markOf_65 : decode cX1_markOf 65 = .ok (.iload_n 1, 1) := by decide +kernel
theorem dX1_markOf_66 : decode cX1_markOf 66 = .ok (.invokevirtual 108, 3) := by decide +kernel
theorem dX1_markOf_69 : decode cX1_markOf 69 = .ok (.aload_n 0, 1) := by decide +kernel
theorem dX1_markOf_70 : decode cX1_markOf 70 = .ok (.getfield 15, 3) := by decide +kernel
theorem dX1_markOf_73 : decode cX1_markOf 73 = .ok (.iload_n 1, 1) := by decide +kernel
theorem dX1_markOf_74 : decode cX1_markOf 74 = .ok (.iaload, 1) := by decide +kernel
theorem dX1_markOf_75 : decode cX1_markOf 75 = .ok (.isub, 1) := by decide +kernel
theorem dX1_markOf_76 : decode cX1_markOf 76 = .ok (.bipush 10, 2) := by decide +kernel
theorem dX1_markOf_78 : decode cX1_markOf 78 = .ok (.iadd, 1) := by decide +kernel
theorem dX1_markOf_79 : decode cX1_markOf 79 = .ok (.ireturn, 1) := by decide +kernel
theorem dX1_markOf_80 : decode cX1_markOf 80 = .ok (.aload_n 0, 1) := by decide +kernel
theorem dX1_markOf_81 : decode cX1_markOf 81 = .ok (.aload_n 0, 1) := by decide +kernel
theorem dX1_markOf_82 : decode cX1_markOf 82 = .ok (.iload_n 1, 1) := by decide +kernel
theorem dX1_markOf_83 : decode cX1_markOf 83 = .ok (.invokevirtual 108, 3) := by decide +kernel
theorem dX1_markOf_86 : decode cX1_markOf 86 = .ok (.invokevirtual 133, 3) := by decide +kernel
theorem dX1_markOf_89 : decode cX1_markOf 89 = .ok (.ireturn, 1) := by decide +kernel
def F_X1_markOf (n : Nat) (S : aSt) (a0 : Nat) (a1 : Int32) (a2 : Int32) : Option Int32 :=
if a2 = (1 : Int32) then ((F_X1_meaningOf n S a0 a1).bind fun r35 =>
(F_X1_yesMeaning n S a0 r35).bind fun r38 =>
some r38) else
if a2 = (2 : Int32) then (rfd (S.2.2 a0 6) 4 fun k44 =>
rfd (S.2.2 k44 0) 7 fun k47 =>
grd (inb a1 (SH k47).2) <|
(F_X1_cardsOn n S a0 (S.1 k47 a1.toNatClampNeg)).bind fun r52 =>
some (r52 - (1 : Int32))) else
if a2 = (3 : Int32) then ((F_X1_questionsFitted n S a0 a1).bind fun r60 =>
some r60) else
if a2 = (4 : Int32) then ((F_X1_meaningOf n S a0 a1).bind fun r66 =>
rfd (S.2.2 a0 1) 7 fun k70 =>
grd (inb a1 (SH k70).2) <|
some ((r66 - (S.1 k70 a1.toNatClampNeg)) + (10 : Int32))) else
(F_X1_meaningOf n S a0 a1).bind fun r83 =>
(F_X1_placesSaying n S a0 r83).bind fun r86 =>
some r86
set_option maxHeartbeats 4000000 in
set_option maxRecDepth 100000 in
theorem C_X1_markOf (G : aG) (l : Launch) (n : Nat) (S : aSt) (a0 : Nat) (a1 : Int32) (a2 : Int32) (r : Int32) (ha0 : isT a0 0 = true) (hf : F_X1_markOf n S a0 a1 a2 = some r) : Ctr G l yX1_markOf mX1_markOf (rmM 5) 97 97 S [.ref a0, .int a1, .int a2] (some (.int r)) S := by
  refine Ctr.of (by decide) rfl rfl (Nat.le_of_ble_eq_true rfl) [(0, .ref a0), (1, .int a1), (2, .int a2)] rfl ?_
  unfold F_X1_markOf at hf
  refine Go.iload_n 2 1 rfl dX1_markOf_0 rfl ?_
  by_cases hs1_0 : a2 = (1 : Int32)
  · replace hf := f_if hf hs1_0
    refine Go.tin (1 : Int32) 32 hs1_0 dX1_markOf_1 (by decide) (by decide) rfl rfl ?_
    refine Go.aload_n 0 33 rfl dX1_markOf_32 rfl ?_
    refine Go.aload_n 0 34 rfl dX1_markOf_33 rfl ?_
    refine Go.iload_n 1 35 rfl dX1_markOf_34 rfl ?_
    obtain ⟨r35, er35, hf⟩ := f_bnd hf
    refine Go.cV 38 [.int a1] [.ref a0] (C_X1_meaningOf G l n S a0 a1 r35 ha0 er35) rfl dX1_markOf_35 cv_X1_108 ha0 (by decide) (by decide) rfl (Nat.le_of_ble_eq_true rfl) ?_
    obtain ⟨r38, er38, hf⟩ := f_bnd hf
    refine Go.cV 41 [.int r35] [] (C_X1_yesMeaning G l n S a0 r35 r38 ha0 er38) rfl dX1_markOf_38 cv_X1_124 ha0 (by decide) (by decide) rfl (Nat.le_of_ble_eq_true rfl) ?_
    exact Go.ir rfl dX1_markOf_41 hf
  replace hf := f_el hf hs1_0
  by_cases hs1_1 : a2 = (2 : Int32)
  · replace hf := f_if hf hs1_1
    refine Go.tin (2 : Int32) 42 hs1_1 dX1_markOf_1 (by decide) (by decide) rfl rfl ?_
    refine Go.aload_n 0 43 rfl dX1_markOf_42 rfl ?_
    refine Go.aload_n 0 44 rfl dX1_markOf_43 rfl ?_
    obtain ⟨k44, qk44, hk44, hf⟩ := f_rfd hf
    refine Go.getR 47 rfl dX1_markOf_44 fl_X1_33 rfl (isT_lt ha0) (isT_sh ha0) qk44 ?_
    obtain ⟨k47, qk47, hk47, hf⟩ := f_rfd hf
    refine Go.getR 50 rfl dX1_markOf_47 fl_X1_79 rfl (isT_lt hk44) (isT_sh hk44) qk47 ?_
    refine Go.iload_n 1 51 rfl dX1_markOf_50 rfl ?_
    obtain ⟨g51, hf⟩ := f_grd hf
    refine Go.iald 52 rfl dX1_markOf_51 (isT_lt hk47) (isT_sh hk47) g51 ?_
    obtain ⟨r52, er52, hf⟩ := f_bnd hf
    refine Go.cV 55 [.int (S.1 k47 a1.toNatClampNeg)] [] (C_X1_cardsOn G l n S a0 (S.1 k47 a1.toNatClampNeg) r52 ha0 er52) rfl dX1_markOf_52 cv_X1_127 ha0 (by decide) (by decide) rfl (Nat.le_of_ble_eq_true rfl) ?_
    refine Go.iconst (1 : Int32) 56 rfl dX1_markOf_55 ci_1 ?_
    refine Go.isub 57 rfl dX1_markOf_56 ?_
    exact Go.ir rfl dX1_markOf_57 hf
  replace hf := f_el hf hs1_1
  by_cases hs1_2 : a2 = (3 : Int32)
  · replace hf := f_if hf hs1_2
    refine Go.tin (3 : Int32) 58 hs1_2 dX1_markOf_1 (by decide) (by decide) rfl rfl ?_
    refine Go.aload_n 0 59 rfl dX1_markOf_58 rfl ?_
    refine Go.iload_n 1 60 rfl dX1_markOf_59 rfl ?_
    obtain ⟨r60, er60, hf⟩ := f_bnd hf
    refine Go.cV 63 [.int a1] [] (C_X1_questionsFitted G l n S a0 a1 r60 ha0 er60) rfl dX1_markOf_60 cv_X1_130 ha0 (by decide) (by decide) rfl (Nat.le_of_ble_eq_true rfl) ?_
    exact Go.ir rfl dX1_markOf_63 hf
  replace hf := f_el hf hs1_2
  by_cases hs1_3 : a2 = (4 : Int32)
  · replace hf := f_if hf hs1_3
    refine Go.tin (4 : Int32) 64 hs1_3 dX1_markOf_1 (by decide) (by decide) rfl rfl ?_
    refine Go.aload_n 0 65 rfl dX1_markOf_64 rfl ?_
    refine Go.iload_n 1 66 rfl dX1_markOf_65 rfl ?_
    obtain ⟨r66, er66, hf⟩ := f_bnd hf
    refine Go.cV 69 [.int a1] [] (C_X1_meaningOf G l n S a0 a1 r66 ha0 er66) rfl dX1_markOf_66 cv_X1_108 ha0 (by decide) (by decide) rfl (Nat.le_of_ble_eq_true rfl) ?_
    refine Go.aload_n 0 70 rfl dX1_markOf_69 rfl ?_
    obtain ⟨k70, qk70, hk70, hf⟩ := f_rfd hf
    refine Go.getR 73 rfl dX1_markOf_70 fl_X1_15 rfl (isT_lt ha0) (isT_sh ha0) qk70 ?_
    refine Go.iload_n 1 74 rfl dX1_markOf_73 rfl ?_
    obtain ⟨g74, hf⟩ := f_grd hf
    refine Go.iald 75 rfl dX1_markOf_74 (isT_lt hk70) (isT_sh hk70) g74 ?_
    refine Go.isub 76 rfl dX1_markOf_75 ?_
    refine Go.bipush (10 : Int32) 78 rfl dX1_markOf_76 cb_10 ?_
    refine Go.iadd 79 rfl dX1_markOf_78 ?_
    exact Go.ir rfl dX1_markOf_79 hf
  replace hf := f_el hf hs1_3
  have nhs1_0 := tsw_ne (z := 1) hs1_0 (by decide)
  have nhs1_1 := tsw_ne (z := 2) hs1_1 (by decide)
  have nhs1_2 := tsw_ne (z := 3) hs1_2 (by decide)
  have nhs1_3 := tsw_ne (z := 4) hs1_3 (by decide)
  refine Go.tout 80 dX1_markOf_1 (by omega) rfl ?_
  refine Go.aload_n 0 81 rfl dX1_markOf_80 rfl ?_
  refine Go.aload_n 0 82 rfl dX1_markOf_81 rfl ?_
  refine Go.iload_n 1 83 rfl dX1_markOf_82 rfl ?_
  obtain ⟨r83, er83, hf⟩ := f_bnd hf
  refine Go.cV 86 [.int a1] [.ref a0] (C_X1_meaningOf G l n S a0 a1 r83 ha0 er83) rfl dX1_markOf_83 cv_X1_108 ha0 (by decide) (by decide) rfl (Nat.le_of_ble_eq_true rfl) ?_
  obtain ⟨r86, er86, hf⟩ := f_bnd hf
  refine Go.cV 89 [.int r83] [] (C_X1_placesSaying G l n S a0 r83 r86 ha0 er86) rfl dX1_markOf_86 cv_X1_133 ha0 (by decide) (by decide) rfl (Nat.le_of_ble_eq_true rfl) ?_
  exact Go.ir rfl dX1_markOf_89 hf
theorem dX1_placesAmong_0 : decode cX1_placesAmong 0 = .ok (.iconst 0, 1) := by decide +kernel
theorem dX1_placesAmong_1 : decode cX1_placesAmong 1 = .ok (.istore_n 1, 1) := by decide +kernel
theorem dX1_placesAmong_2 : decode cX1_placesAmong 2 = .ok (.iconst 0, 1) := by decide +kernel
theorem dX1_placesAmong_3 : decode cX1_placesAmong 3 = .ok (.istore_n 2, 1) := by decide +kernel
theorem dX1_placesAmong_4 : decode cX1_placesAmong 4 = .ok (.iload_n 2, 1) := by decide +kernel
theorem dX1_placesAmong_5 : decode cX1_placesAmong 5 = .ok (.aload_n 0, 1) := by decide +kernel
theorem dX1_placesAmong_6 : decode cX1_placesAmong 6 = .ok (.getfield 37, 3) := by decide +kernel
theorem dX1_placesAmong_9 : decode cX1_placesAmong 9 = .ok (.if_icmp .ge 25, 3) := by decide +kernel
theorem dX1_placesAmong_12 : decode cX1_placesAmong 12 = .ok (.aload_n 0, 1) := by decide +kernel
theorem dX1_placesAmong_13 : decode cX1_placesAmong 13 = .ok (.getfield 9, 3) := by decide +kernel
theorem dX1_placesAmong_16 : decode cX1_placesAmong 16 = .ok (.iload_n 2, 1) := by decide +kernel
theorem dX1_placesAmong_17 : decode cX1_placesAmong 17 = .ok (.iaload, 1) := by decide +kernel
theorem dX1_placesAmong_18 : decode cX1_placesAmong 18 = .ok (.iconst 2, 1) := by decide +kernel
theorem dX1_placesAmong_19 : decode cX1_placesAmong 19 = .ok (.invokestatic 111, 3) := by decide +kernel
theorem dX1_placesAmong_22 : decode cX1_placesAmong 22 = .ok (.ifCond .eq 6, 3) := by decide +kernel
theorem dX1_placesAmong_25 : decode cX1_placesAmong 25 = .ok (.iinc 1 1, 3) := by decide +kernel
theorem dX1_placesAmong_28 : decode cX1_placesAmong 28 = .ok (.iinc 2 1, 3) := by decide +kernel
theorem dX1_placesAmong_31 : decode cX1_placesAmong 31 = .ok (.goto (-27), 3) := by decide +kernel
theorem dX1_placesAmong_34 : decode cX1_placesAmong 34 = .ok (.iload_n 1, 1) := by decide +kernel
theorem dX1_placesAmong_35 : decode cX1_placesAmong 35 = .ok (.ireturn, 1) := by decide +kernel
def F_X1_placesAmong_L4 (n : Nat) (S : aSt) (a0 : Nat) (K34 : Int32 → Option Int32) : Nat → Int32 → Int32 → Option Int32
  | 0, _, _ => none
  | fu + 1, l4_1, l4_2 =>
    if (S.1 a0 7) ≤ l4_2 then (K34 l4_1) else
    rfd (S.2.2 a0 0) 7 fun k13 =>
    grd (inb l4_2 (SH k13).2) <|
    (F_X0_isA n S (S.1 k13 l4_2.toNatClampNeg) (2 : Int32)).bind fun r19 =>
    jn (fun (j28_1 : Int32) => (F_X1_placesAmong_L4 n S a0 K34 fu j28_1 (l4_2 + (1 : Int32)) : Option Int32)) fun K28 =>
    if r19 = 0 then (K28 l4_1) else
    K28 (l4_1 + (1 : Int32))
def F_X1_placesAmong (n : Nat) (S : aSt) (a0 : Nat) : Option Int32 :=
jn (fun (x34_1 : Int32) => (some x34_1 : Option Int32)) fun K34 =>
F_X1_placesAmong_L4 n S a0 K34 n (0 : Int32) (0 : Int32)
set_option maxHeartbeats 4000000 in
set_option maxRecDepth 100000 in
theorem C_X1_placesAmong (G : aG) (l : Launch) (n : Nat) (S : aSt) (a0 : Nat) (r : Int32) (ha0 : isT a0 0 = true) (hf : F_X1_placesAmong n S a0 = some r) : Ctr G l yX1_placesAmong mX1_placesAmong (rmM 2) 97 97 S [.ref a0] (some (.int r)) S := by
  refine Ctr.of (by decide) rfl rfl (Nat.le_of_ble_eq_true rfl) [(0, .ref a0)] rfl ?_
  unfold F_X1_placesAmong at hf
  refine Go.iconst (0 : Int32) 1 rfl dX1_placesAmong_0 ci_0 ?_
  refine Go.istore_n 2 [(1, .int (0 : Int32)), (0, .ref a0)] rfl dX1_placesAmong_1 (by decide) rfl ?_
  refine Go.iconst (0 : Int32) 3 rfl dX1_placesAmong_2 ci_0 ?_
  refine Go.istore_n 4 [(2, .int (0 : Int32)), (1, .int (0 : Int32)), (0, .ref a0)] rfl dX1_placesAmong_3 (by decide) rfl ?_
  obtain ⟨K34, eK34, hf⟩ := f_jn hf
  have J34 : ∀ (x34_1 : Int32), K34 x34_1 = some r → GoM G l 2 (TmR G (some (.int r)) 97 S 0 0) mX1_placesAmong 34 [(1, .int x34_1)] [] S := by
    intro x34_1 hf
    rw [eK34] at hf
    refine Go.iload_n 0 35 rfl dX1_placesAmong_34 rfl ?_
    exact Go.ir rfl dX1_placesAmong_35 hf
  clear eK34
  have L4 : ∀ (fu : Nat) (l4_1 : Int32) (l4_2 : Int32), F_X1_placesAmong_L4 n S a0 K34 fu l4_1 l4_2 = some r → GoM G l 2 (TmR G (some (.int r)) 97 S 0 0) mX1_placesAmong 4 [(0, .ref a0), (1, .int l4_1), (2, .int l4_2)] [] S := by
    intro fu
    induction fu with
    | zero => intro l4_1 l4_2 hf; rw [F_X1_placesAmong_L4] at hf; cases hf
    | succ fu ih =>
      intro l4_1 l4_2 hf
      rw [F_X1_placesAmong_L4] at hf
      refine Go.iload_n 2 5 rfl dX1_placesAmong_4 rfl ?_
      refine Go.aload_n 0 6 rfl dX1_placesAmong_5 rfl ?_
      refine Go.getI 9 rfl dX1_placesAmong_6 fl_X1_37 rfl (isT_lt ha0) (isT_sh ha0) ?_
      refine Go.icmp_ge 34 12 rfl dX1_placesAmong_9 rfl (fun hc => ?_) (fun hc => ?_)
      · replace hf := f_if hf hc
        exact Go.sub [1] [(1, .int l4_1)] rfl (J34 l4_1 hf)
      · replace hf := f_el hf hc
        refine Go.aload_n 0 13 rfl dX1_placesAmong_12 rfl ?_
        obtain ⟨k13, qk13, hk13, hf⟩ := f_rfd hf
        refine Go.getR 16 rfl dX1_placesAmong_13 fl_X1_9 rfl (isT_lt ha0) (isT_sh ha0) qk13 ?_
        refine Go.iload_n 2 17 rfl dX1_placesAmong_16 rfl ?_
        obtain ⟨g17, hf⟩ := f_grd hf
        refine Go.iald 18 rfl dX1_placesAmong_17 (isT_lt hk13) (isT_sh hk13) g17 ?_
        refine Go.iconst (2 : Int32) 19 rfl dX1_placesAmong_18 ci_2 ?_
        obtain ⟨r19, er19, hf⟩ := f_bnd hf
        refine Go.cS 22 [.int (S.1 k13 l4_2.toNatClampNeg), .int (2 : Int32)] [] (C_X0_isA G l n S (S.1 k13 l4_2.toNatClampNeg) (2 : Int32) r19  er19) rfl dX1_placesAmong_19 cx_X1_111 (by decide) (by decide) rfl (Nat.le_of_ble_eq_true rfl) ?_
        obtain ⟨K28, eK28, hf⟩ := f_jn hf
        have J28 : ∀ (j28_1 : Int32), K28 j28_1 = some r → GoM G l 2 (TmR G (some (.int r)) 97 S 0 0) mX1_placesAmong 28 [(0, .ref a0), (1, .int j28_1), (2, .int l4_2)] [] S := by
          intro j28_1 hf
          rw [eK28] at hf
          refine Go.inc 2 31 (1 : Int32) [(2, .int (l4_2 + (1 : Int32))), (0, .ref a0), (1, .int j28_1)] rfl dX1_placesAmong_28 rfl ci_1 (by decide) rfl ?_
          refine Go.goto 4 dX1_placesAmong_31 rfl ?_
          exact Go.sub [1, 2, 0] [(0, .ref a0), (1, .int j28_1), (2, .int (l4_2 + (1 : Int32)))] rfl (ih j28_1 (l4_2 + (1 : Int32)) hf)
        clear eK28
        refine Go.if_eq 28 25 rfl dX1_placesAmong_22 rfl (fun hc => ?_) (fun hc => ?_)
        · replace hf := f_if hf hc
          exact J28 l4_1 hf
        · replace hf := f_el hf hc
          refine Go.inc 1 28 (1 : Int32) [(1, .int (l4_1 + (1 : Int32))), (0, .ref a0), (2, .int l4_2)] rfl dX1_placesAmong_25 rfl ci_1 (by decide) rfl ?_
          exact Go.sub [1, 0, 2] [(0, .ref a0), (1, .int (l4_1 + (1 : Int32))), (2, .int l4_2)] rfl (J28 (l4_1 + (1 : Int32)) hf)
  exact Go.sub [2, 1, 0] [(0, .ref a0), (1, .int (0 : Int32)), (2, .int (0 : Int32))] rfl (L4 n (0 : Int32) (0 : Int32) hf)
theorem dX1_firstAlike_0 : decode cX1_firstAlike 0 = .ok (.iconst 0, 1) := by decide +kernel
theorem dX1_firstAlike_1 : decode cX1_firstAlike 1 = .ok (.istore 4, 2) := by decide +kernel
theorem dX1_firstAlike_3 : decode cX1_firstAlike 3 = .ok (.iload 4, 2) := by decide +kernel
theorem dX1_firstAlike_5 : decode cX1_firstAlike 5 = .ok (.aload_n 0, 1) := by decide +kernel
theorem dX1_firstAlike_6 : decode cX1_firstAlike 6 = .ok (.getfield 37, 3) := by decide +kernel
theorem dX1_firstAlike_9 : decode cX1_firstAlike 9 = .ok (.if_icmp .ge 66, 3) := by decide +kernel
theorem dX1_firstAlike_12 : decode cX1_firstAlike 12 = .ok (.aload_n 0, 1) := by decide +kernel
theorem dX1_firstAlike_13 : decode cX1_firstAlike 13 = .ok (.iload 4, 2) := by decide +kernel
theorem dX1_firstAlike_15 : decode cX1_firstAlike 15 = .ok (.invokevirtual 108, 3) := by decide +kernel
theorem dX1_firstAlike_18 : decode cX1_firstAlike 18 = .ok (.iload_n 1, 1) := by decide +kernel
theorem dX1_firstAlike_19 : decode cX1_firstAlike 19 = .ok (.bipush 10, 2) := by decide +kernel
theorem dX1_firstAlike_21 : decode cX1_firstAlike 21 = .ok (.irem, 1) := by decide +kernel
theorem dX1_firstAlike_22 : decode cX1_firstAlike 22 = .ok (.if_icmp .ne 25, 3) := by decide +kernel
theorem dX1_firstAlike_25 : decode cX1_firstAlike 25 = .ok (.iload_n 3, 1) := by decide +kernel
theorem dX1_firstAlike_26 : decode cX1_firstAlike 26 = .ok (.ifCond .eq 17, 3) := by decide +kernel
theorem dX1_firstAlike_29 : decode cX1_firstAlike 29 = .ok (.aload_n 0, 1) := by decide +kernel
theorem dX1_firstAlike_30 : decode cX1_firstAlike 30 = .ok (.getfield 9, 3) := by decide +kernel
theorem dX1_firstAlike_33 : decode cX1_firstAlike 33 = .ok (.iload 4, 2) := by decide +kernel
theorem dX1_firstAlike_35 : decode cX1_firstAlike 35 = .ok (.iaload, 1) := by decide +kernel
theorem dX1_firstAlike_36 : decode cX1_firstAlike 36 = .ok (.iload_n 1, 1) := by decide +kernel
theorem dX1_firstAlike_37 : decode cX1_firstAlike 37 = .ok (.bipush 10, 2) := by decide +kernel
theorem dX1_firstAlike_39 : decode cX1_firstAlike 39 = .ok (.idiv, 1) := by decide +kernel
theorem dX1_firstAlike_40 : decode cX1_firstAlike 40 = .ok (.if_icmp .ne 7, 3) := by decide +kernel
theorem dX1_firstAlike_43 : decode cX1_firstAlike 43 = .ok (.iconst 1, 1) := by decide +kernel
theorem dX1_firstAlike_44 : decode cX1_firstAlike 44 = .ok (.goto 4, 3) := by decide +kernel
theorem dX1_firstAlike_47 : decode cX1_firstAlike 47 = .ok (.iconst 0, 1) := by decide +kernel
theorem dX1_firstAlike_48 : decode cX1_firstAlike 48 = .ok (.istore 5, 2) := by decide +kernel
theorem dX1_firstAlike_50 : decode cX1_firstAlike 50 = .ok (.iload 5, 2) := by decide +kernel
theorem dX1_firstAlike_52 : decode cX1_firstAlike 52 = .ok (.ifCond .eq 17, 3) := by decide +kernel
theorem dX1_firstAlike_55 : decode cX1_firstAlike 55 = .ok (.iload_n 2, 1) := by decide +kernel
theorem dX1_firstAlike_56 : decode cX1_firstAlike 56 = .ok (.iconst 1, 1) := by decide +kernel
theorem dX1_firstAlike_57 : decode cX1_firstAlike 57 = .ok (.iload 4, 2) := by decide +kernel
theorem dX1_firstAlike_59 : decode cX1_firstAlike 59 = .ok (.ishl, 1) := by decide +kernel
theorem dX1_firstAlike_60 : decode cX1_firstAlike 60 = .ok (.iand, 1) := by decide +kernel
theorem dX1_firstAlike_61 : decode cX1_firstAlike 61 = .ok (.ifCond .ne 8, 3) := by decide +kernel
theorem dX1_firstAlike_64 : decode cX1_firstAlike 64 = .ok (.iconst 1, 1) := by decide +kernel
theorem dX1_firstAlike_65 : decode cX1_firstAlike 65 = .ok (.iload 4, 2) := by decide +kernel
theorem dX1_firstAlike_67 : decode cX1_firstAlike 67 = .ok (.ishl, 1) := by decide +kernel
theorem dX1_firstAlike_68 : decode cX1_firstAlike 68 = .ok (.ireturn, 1) := by decide +kernel
theorem dX1_firstAlike_69 : decode cX1_firstAlike 69 = .ok (.iinc 4 1, 3) := by decide +kernel
theorem dX1_firstAlike_72 : decode cX1_firstAlike 72 = .ok (.goto (-69), 3) := by decide +kernel
theorem dX1_firstAlike_75 : decode cX1_firstAlike 75 = .ok (.iconst 0, 1) := by decide +kernel
theorem dX1_firstAlike_76 : decode cX1_firstAlike 76 = .ok (.ireturn, 1) := by decide +kernel
def F_X1_firstAlike_L3 (n : Nat) (S : aSt) (a0 : Nat) (a1 : Int32) (a2 : Int32) (a3 : Int32) (K75 : Option Int32) : Nat → Int32 → Option Int32
  | 0, _ => none
  | fu + 1, l3_4 =>
    if (S.1 a0 7) ≤ l3_4 then (K75) else
    (F_X1_meaningOf n S a0 l3_4).bind fun r15 =>
    jn (fun (j48s0 : Int32) => (jn ((F_X1_firstAlike_L3 n S a0 a1 a2 a3 K75 fu (l3_4 + (1 : Int32)) : Option Int32)) fun K69 =>
    if j48s0 = 0 then (K69) else
    if (a2 &&& ((1 : Int32) <<< (l3_4 &&& 31))) = 0 then (some ((1 : Int32) <<< (l3_4 &&& 31))) else
    K69 : Option Int32)) fun K48 =>
    jn ((K48 (0 : Int32) : Option Int32)) fun K47 =>
    if r15 = (a1 - a1 / (10 : Int32) * (10 : Int32)) then (jn ((K48 (1 : Int32) : Option Int32)) fun K43 =>
    if a3 = 0 then (K43) else
    rfd (S.2.2 a0 0) 7 fun k30 =>
    grd (inb l3_4 (SH k30).2) <|
    if (S.1 k30 l3_4.toNatClampNeg) = (a1 / (10 : Int32)) then (K43) else
    K47) else
    K47
def F_X1_firstAlike (n : Nat) (S : aSt) (a0 : Nat) (a1 : Int32) (a2 : Int32) (a3 : Int32) : Option Int32 :=
jn ((some (0 : Int32) : Option Int32)) fun K75 =>
F_X1_firstAlike_L3 n S a0 a1 a2 a3 K75 n (0 : Int32)
set_option maxHeartbeats 4000000 in
set_option maxRecDepth 100000 in
theorem C_X1_firstAlike (G : aG) (l : Launch) (n : Nat) (S : aSt) (a0 : Nat) (a1 : Int32) (a2 : Int32) (a3 : Int32) (r : Int32) (ha0 : isT a0 0 = true) (hf : F_X1_firstAlike n S a0 a1 a2 a3 = some r) : Ctr G l yX1_firstAlike mX1_firstAlike (rmM 3) 97 97 S [.ref a0, .int a1, .int a2, .int a3] (some (.int r)) S := by
  refine Ctr.of (by decide) rfl rfl (Nat.le_of_ble_eq_true rfl) [(0, .ref a0), (1, .int a1), (2, .int a2), (3, .int a3)] rfl ?_
  unfold F_X1_firstAlike at hf
  refine Go.iconst (0 : Int32) 1 rfl dX1_firstAlike_0 ci_0 ?_
  refine Go.istore 3 [(4, .int (0 : Int32)), (0, .ref a0), (1, .int a1), (2, .int a2), (3, .int a3)] rfl dX1_firstAlike_1 (by decide) rfl ?_
  obtain ⟨K75, eK75, hf⟩ := f_jn hf
  have J75 : K75 = some r → GoM G l 3 (TmR G (some (.int r)) 97 S 0 0) mX1_firstAlike 75 [] [] S := by
    intro hf
    rw [eK75] at hf
    refine Go.iconst (0 : Int32) 76 rfl dX1_firstAlike_75 ci_0 ?_
    exact Go.ir rfl dX1_firstAlike_76 hf
  clear eK75
  have L3 : ∀ (fu : Nat) (l3_4 : Int32), F_X1_firstAlike_L3 n S a0 a1 a2 a3 K75 fu l3_4 = some r → GoM G l 3 (TmR G (some (.int r)) 97 S 0 0) mX1_firstAlike 3 [(0, .ref a0), (1, .int a1), (2, .int a2), (3, .int a3), (4, .int l3_4)] [] S := by
    intro fu
    induction fu with
    | zero => intro l3_4 hf; rw [F_X1_firstAlike_L3] at hf; cases hf
    | succ fu ih =>
      intro l3_4 hf
      rw [F_X1_firstAlike_L3] at hf
      refine Go.iload 4 5 rfl dX1_firstAlike_3 rfl ?_
      refine Go.aload_n 0 6 rfl dX1_firstAlike_5 rfl ?_
      refine Go.getI 9 rfl dX1_firstAlike_6 fl_X1_37 rfl (isT_lt ha0) (isT_sh ha0) ?_
      refine Go.icmp_ge 75 12 rfl dX1_firstAlike_9 rfl (fun hc => ?_) (fun hc => ?_)
      · replace hf := f_if hf hc
        exact Go.sub [] [] rfl (J75 hf)
      · replace hf := f_el hf hc
        refine Go.aload_n 0 13 rfl dX1_firstAlike_12 rfl ?_
        refine Go.iload 4 15 rfl dX1_firstAlike_13 rfl ?_
        obtain ⟨r15, er15, hf⟩ := f_bnd hf
        refine Go.cV 18 [.int l3_4] [] (C_X1_meaningOf G l n S a0 l3_4 r15 ha0 er15) rfl dX1_firstAlike_15 cv_X1_108 ha0 (by decide) (by decide) rfl (Nat.le_of_ble_eq_true rfl) ?_
        refine Go.iload_n 1 19 rfl dX1_firstAlike_18 rfl ?_
        refine Go.bipush (10 : Int32) 21 rfl dX1_firstAlike_19 cb_10 ?_
        refine Go.irem 22 rfl dX1_firstAlike_21 (by decide) ?_
        obtain ⟨K48, eK48, hf⟩ := f_jn hf
        have J48 : ∀ (j48s0 : Int32), K48 j48s0 = some r → GoM G l 3 (TmR G (some (.int r)) 97 S 0 0) mX1_firstAlike 48 [(0, .ref a0), (1, .int a1), (2, .int a2), (3, .int a3), (4, .int l3_4)] [.int j48s0] S := by
          intro j48s0 hf
          rw [eK48] at hf
          refine Go.istore 50 [(5, .int j48s0), (0, .ref a0), (1, .int a1), (2, .int a2), (3, .int a3), (4, .int l3_4)] rfl dX1_firstAlike_48 (by decide) rfl ?_
          refine Go.iload 0 52 rfl dX1_firstAlike_50 rfl ?_
          obtain ⟨K69, eK69, hf⟩ := f_jn hf
          have J69 : K69 = some r → GoM G l 3 (TmR G (some (.int r)) 97 S 0 0) mX1_firstAlike 69 [(0, .ref a0), (1, .int a1), (2, .int a2), (3, .int a3), (4, .int l3_4)] [] S := by
            intro hf
            rw [eK69] at hf
            refine Go.inc 4 72 (1 : Int32) [(4, .int (l3_4 + (1 : Int32))), (0, .ref a0), (1, .int a1), (2, .int a2), (3, .int a3)] rfl dX1_firstAlike_69 rfl ci_1 (by decide) rfl ?_
            refine Go.goto 3 dX1_firstAlike_72 rfl ?_
            exact Go.sub [1, 2, 3, 4, 0] [(0, .ref a0), (1, .int a1), (2, .int a2), (3, .int a3), (4, .int (l3_4 + (1 : Int32)))] rfl (ih (l3_4 + (1 : Int32)) hf)
          clear eK69
          refine Go.if_eq 69 55 rfl dX1_firstAlike_52 rfl (fun hc => ?_) (fun hc => ?_)
          · replace hf := f_if hf hc
            exact Go.sub [1, 2, 3, 4, 5] [(0, .ref a0), (1, .int a1), (2, .int a2), (3, .int a3), (4, .int l3_4)] rfl (J69 hf)
          · replace hf := f_el hf hc
            refine Go.iload_n 3 56 rfl dX1_firstAlike_55 rfl ?_
            refine Go.iconst (1 : Int32) 57 rfl dX1_firstAlike_56 ci_1 ?_
            refine Go.iload 5 59 rfl dX1_firstAlike_57 rfl ?_
            refine Go.ishl 60 rfl dX1_firstAlike_59 ?_
            refine Go.iand 61 rfl dX1_firstAlike_60 ?_
            refine Go.if_ne 69 64 rfl dX1_firstAlike_61 rfl (fun hc => ?_) (fun hc => ?_)
            · replace hf := f_el hf hc
              exact Go.sub [1, 2, 3, 4, 5] [(0, .ref a0), (1, .int a1), (2, .int a2), (3, .int a3), (4, .int l3_4)] rfl (J69 hf)
            · replace hf := f_if hf hc
              refine Go.iconst (1 : Int32) 65 rfl dX1_firstAlike_64 ci_1 ?_
              refine Go.iload 5 67 rfl dX1_firstAlike_65 rfl ?_
              refine Go.ishl 68 rfl dX1_firstAlike_67 ?_
              exact Go.ir rfl dX1_firstAlike_68 hf
        clear eK48
        obtain ⟨K47, eK47, hf⟩ := f_jn hf
        have J47 : K47 = some r → GoM G l 3 (TmR G (some (.int r)) 97 S 0 0) mX1_firstAlike 47 [(0, .ref a0), (1, .int a1), (2, .int a2), (3, .int a3), (4, .int l3_4)] [] S := by
          intro hf
          rw [eK47] at hf
          refine Go.iconst (0 : Int32) 48 rfl dX1_firstAlike_47 ci_0 ?_
          exact J48 (0 : Int32) hf
        clear eK47
        refine Go.icmp_ne 47 25 rfl dX1_firstAlike_22 rfl (fun hc => ?_) (fun hc => ?_)
        · replace hf := f_el hf hc
          exact J47 hf
        · replace hf := f_if hf hc
          refine Go.iload_n 3 26 rfl dX1_firstAlike_25 rfl ?_
          obtain ⟨K43, eK43, hf⟩ := f_jn hf
          have J43 : K43 = some r → GoM G l 3 (TmR G (some (.int r)) 97 S 0 0) mX1_firstAlike 43 [(0, .ref a0), (1, .int a1), (2, .int a2), (3, .int a3), (4, .int l3_4)] [] S := by
            intro hf
            rw [eK43] at hf
            refine Go.iconst (1 : Int32) 44 rfl dX1_firstAlike_43 ci_1 ?_
            refine Go.goto 48 dX1_firstAlike_44 rfl ?_
            exact J48 (1 : Int32) hf
          clear eK43
          refine Go.if_eq 43 29 rfl dX1_firstAlike_26 rfl (fun hc => ?_) (fun hc => ?_)
          · replace hf := f_if hf hc
            exact J43 hf
          · replace hf := f_el hf hc
            refine Go.aload_n 0 30 rfl dX1_firstAlike_29 rfl ?_
            obtain ⟨k30, qk30, hk30, hf⟩ := f_rfd hf
            refine Go.getR 33 rfl dX1_firstAlike_30 fl_X1_9 rfl (isT_lt ha0) (isT_sh ha0) qk30 ?_
            refine Go.iload 4 35 rfl dX1_firstAlike_33 rfl ?_
            obtain ⟨g35, hf⟩ := f_grd hf
            refine Go.iald 36 rfl dX1_firstAlike_35 (isT_lt hk30) (isT_sh hk30) g35 ?_
            refine Go.iload_n 1 37 rfl dX1_firstAlike_36 rfl ?_
            refine Go.bipush (10 : Int32) 39 rfl dX1_firstAlike_37 cb_10 ?_
            refine Go.idiv 40 rfl dX1_firstAlike_39 (by decide) ?_
            refine Go.icmp_ne 47 43 rfl dX1_firstAlike_40 rfl (fun hc => ?_) (fun hc => ?_)
            · replace hf := f_el hf hc
              exact J47 hf
            · replace hf := f_if hf hc
              exact J43 hf
  exact Go.sub [1, 2, 3, 4, 0] [(0, .ref a0), (1, .int a1), (2, .int a2), (3, .int a3), (4, .int (0 : Int32))] rfl (L3 n (0 : Int32) hf)
theorem dX1_pairsWith_0 : decode cX1_pairsWith 0 = .ok (.iconst 0, 1) := by decide +kernel
theorem dX1_pairsWith_1 : decode cX1_pairsWith 1 = .ok (.istore_n 3, 1) := by decide +kernel
theorem dX1_pairsWith_2 : decode cX1_pairsWith 2 = .ok (.iconst 0, 1) := by decide +kernel
theorem dX1_pairsWith_3 : decode cX1_pairsWith 3 = .ok (.istore 4, 2) := by decide +kernel
theorem dX1_pairsWith_5 : decode cX1_pairsWith 5 = .ok (.iload 4, 2) := by decide +kernel
theorem dX1_pairsWith_7 : decode cX1_pairsWith 7 = .ok (.aload_n 1, 1) := by decide +kernel
theorem dX1_pairsWith_8 : decode cX1_pairsWith 8 = .ok (.getfield 47, 3) := by decide +kernel
theorem dX1_pairsWith_11 : decode cX1_pairsWith 11 = .ok (.if_icmp .ge 25, 3) := by decide +kernel
theorem dX1_pairsWith_14 : decode cX1_pairsWith 14 = .ok (.iload_n 3, 1) := by decide +kernel
theorem dX1_pairsWith_15 : decode cX1_pairsWith 15 = .ok (.aload_n 0, 1) := by decide +kernel
theorem dX1_pairsWith_16 : decode cX1_pairsWith 16 = .ok (.aload_n 1, 1) := by decide +kernel
theorem dX1_pairsWith_17 : decode cX1_pairsWith 17 = .ok (.getfield 60, 3) := by decide +kernel
theorem dX1_pairsWith_20 : decode cX1_pairsWith 20 = .ok (.iload 4, 2) := by decide +kernel
theorem dX1_pairsWith_22 : decode cX1_pairsWith 22 = .ok (.iaload, 1) := by decide +kernel
theorem dX1_pairsWith_23 : decode cX1_pairsWith 23 = .ok (.iload_n 3, 1) := by decide +kernel
theorem dX1_pairsWith_24 : decode cX1_pairsWith 24 = .ok (.iload_n 2, 1) := by decide +kernel
theorem dX1_pairsWith_25 : decode cX1_pairsWith 25 = .ok (.invokevirtual 136, 3) := by decide +kernel
theorem dX1_pairsWith_28 : decode cX1_pairsWith 28 = .ok (.ior, 1) := by decide +kernel
theorem dX1_pairsWith_29 : decode cX1_pairsWith 29 = .ok (.istore_n 3, 1) := by decide +kernel
theorem dX1_pairsWith_30 : decode cX1_pairsWith 30 = .ok (.iinc 4 1, 3) := by decide +kernel
theorem dX1_pairsWith_33 : decode cX1_pairsWith 33 = .ok (.goto (-28), 3) := by decide +kernel
theorem dX1_pairsWith_36 : decode cX1_pairsWith 36 = .ok (.iload_n 3, 1) := by decide +kernel
theorem dX1_pairsWith_37 : decode cX1_pairsWith 37 = .ok (.invokestatic 140, 3) := by decide +kernel
theorem dX1_pairsWith_40 : decode cX1_pairsWith 40 = .ok (.ireturn, 1) := by decide +kernel
def F_X1_pairsWith_L5 (n : Nat) (S : aSt) (a0 : Nat) (a1 : Nat) (a2 : Int32) (K36 : Int32 → Option Int32) : Nat → Int32 → Int32 → Option Int32
  | 0, _, _ => none
  | fu + 1, l5_3, l5_4 =>
    if (S.1 a1 1) ≤ l5_4 then (K36 l5_3) else
    rfd (S.2.2 a1 0) 7 fun k17 =>
    grd (inb l5_4 (SH k17).2) <|
    (F_X1_firstAlike n S a0 (S.1 k17 l5_4.toNatClampNeg) l5_3 a2).bind fun r25 =>
    nm (l5_3 ||| r25) fun v29 =>
    F_X1_pairsWith_L5 n S a0 a1 a2 K36 fu v29 (l5_4 + (1 : Int32))
def F_X1_pairsWith (n : Nat) (S : aSt) (a0 : Nat) (a1 : Nat) (a2 : Int32) : Option Int32 :=
jn (fun (x36_3 : Int32) => ((F_J6_bitCount_0f7a4 n S x36_3).bind fun r37 =>
some r37 : Option Int32)) fun K36 =>
F_X1_pairsWith_L5 n S a0 a1 a2 K36 n (0 : Int32) (0 : Int32)
set_option maxHeartbeats 4000000 in
set_option maxRecDepth 100000 in
theorem C_X1_pairsWith (G : aG) (l : Launch) (n : Nat) (S : aSt) (a0 : Nat) (a1 : Nat) (a2 : Int32) (r : Int32) (ha0 : isT a0 0 = true) (ha1 : isT a1 3 = true) (hf : F_X1_pairsWith n S a0 a1 a2 = some r) : Ctr G l yX1_pairsWith mX1_pairsWith (rmM 4) 97 97 S [.ref a0, .ref a1, .int a2] (some (.int r)) S := by
  refine Ctr.of (by decide) rfl rfl (Nat.le_of_ble_eq_true rfl) [(0, .ref a0), (1, .ref a1), (2, .int a2)] rfl ?_
  unfold F_X1_pairsWith at hf
  refine Go.iconst (0 : Int32) 1 rfl dX1_pairsWith_0 ci_0 ?_
  refine Go.istore_n 2 [(3, .int (0 : Int32)), (0, .ref a0), (1, .ref a1), (2, .int a2)] rfl dX1_pairsWith_1 (by decide) rfl ?_
  refine Go.iconst (0 : Int32) 3 rfl dX1_pairsWith_2 ci_0 ?_
  refine Go.istore 5 [(4, .int (0 : Int32)), (3, .int (0 : Int32)), (0, .ref a0), (1, .ref a1), (2, .int a2)] rfl dX1_pairsWith_3 (by decide) rfl ?_
  obtain ⟨K36, eK36, hf⟩ := f_jn hf
  have J36 : ∀ (x36_3 : Int32), K36 x36_3 = some r → GoM G l 4 (TmR G (some (.int r)) 97 S 0 0) mX1_pairsWith 36 [(3, .int x36_3)] [] S := by
    intro x36_3 hf
    rw [eK36] at hf
    refine Go.iload_n 0 37 rfl dX1_pairsWith_36 rfl ?_
    obtain ⟨r37, er37, hf⟩ := f_bnd hf
    refine Go.cS 40 [.int x36_3] [] (C_J6_bitCount_0f7a4 G l n S x36_3 r37  er37) rfl dX1_pairsWith_37 cx_X1_140 (by decide) (by decide) rfl (Nat.le_of_ble_eq_true rfl) ?_
    exact Go.ir rfl dX1_pairsWith_40 hf
  clear eK36
  have L5 : ∀ (fu : Nat) (l5_3 : Int32) (l5_4 : Int32), F_X1_pairsWith_L5 n S a0 a1 a2 K36 fu l5_3 l5_4 = some r → GoM G l 4 (TmR G (some (.int r)) 97 S 0 0) mX1_pairsWith 5 [(0, .ref a0), (1, .ref a1), (2, .int a2), (3, .int l5_3), (4, .int l5_4)] [] S := by
    intro fu
    induction fu with
    | zero => intro l5_3 l5_4 hf; rw [F_X1_pairsWith_L5] at hf; cases hf
    | succ fu ih =>
      intro l5_3 l5_4 hf
      rw [F_X1_pairsWith_L5] at hf
      refine Go.iload 4 7 rfl dX1_pairsWith_5 rfl ?_
      refine Go.aload_n 1 8 rfl dX1_pairsWith_7 rfl ?_
      refine Go.getI 11 rfl dX1_pairsWith_8 fl_X1_47 rfl (isT_lt ha1) (isT_sh ha1) ?_
      refine Go.icmp_ge 36 14 rfl dX1_pairsWith_11 rfl (fun hc => ?_) (fun hc => ?_)
      · replace hf := f_if hf hc
        exact Go.sub [3] [(3, .int l5_3)] rfl (J36 l5_3 hf)
      · replace hf := f_el hf hc
        refine Go.iload_n 3 15 rfl dX1_pairsWith_14 rfl ?_
        refine Go.aload_n 0 16 rfl dX1_pairsWith_15 rfl ?_
        refine Go.aload_n 1 17 rfl dX1_pairsWith_16 rfl ?_
        obtain ⟨k17, qk17, hk17, hf⟩ := f_rfd hf
        refine Go.getR 20 rfl dX1_pairsWith_17 fl_X1_60 rfl (isT_lt ha1) (isT_sh ha1) qk17 ?_
        refine Go.iload 4 22 rfl dX1_pairsWith_20 rfl ?_
        obtain ⟨g22, hf⟩ := f_grd hf
        refine Go.iald 23 rfl dX1_pairsWith_22 (isT_lt hk17) (isT_sh hk17) g22 ?_
        refine Go.iload_n 3 24 rfl dX1_pairsWith_23 rfl ?_
        refine Go.iload_n 2 25 rfl dX1_pairsWith_24 rfl ?_
        obtain ⟨r25, er25, hf⟩ := f_bnd hf
        refine Go.cV 28 [.int (S.1 k17 l5_4.toNatClampNeg), .int l5_3, .int a2] [.int l5_3] (C_X1_firstAlike G l n S a0 (S.1 k17 l5_4.toNatClampNeg) l5_3 a2 r25 ha0 er25) rfl dX1_pairsWith_25 cv_X1_136 ha0 (by decide) (by decide) rfl (Nat.le_of_ble_eq_true rfl) ?_
        refine Go.ior 29 rfl dX1_pairsWith_28 ?_
        obtain ⟨v29, ev29, hf⟩ := f_nm hf
        refine Go.topi v29 ev29 ?_
        refine Go.istore_n 30 [(3, .int v29), (0, .ref a0), (1, .ref a1), (2, .int a2), (4, .int l5_4)] rfl dX1_pairsWith_29 (by decide) rfl ?_
        refine Go.inc 4 33 (1 : Int32) [(4, .int (l5_4 + (1 : Int32))), (3, .int v29), (0, .ref a0), (1, .ref a1), (2, .int a2)] rfl dX1_pairsWith_30 rfl ci_1 (by decide) rfl ?_
        refine Go.goto 5 dX1_pairsWith_33 rfl ?_
        exact Go.sub [2, 3, 4, 1, 0] [(0, .ref a0), (1, .ref a1), (2, .int a2), (3, .int v29), (4, .int (l5_4 + (1 : Int32)))] rfl (ih v29 (l5_4 + (1 : Int32)) hf)
  exact Go.sub [2, 3, 4, 1, 0] [(0, .ref a0), (1, .ref a1), (2, .int a2), (3, .int (0 : Int32)), (4, .int (0 : Int32))] rfl (L5 n (0 : Int32) (0 : Int32) hf)
theorem dX1_cardsOfOn_0 : decode cX1_cardsOfOn 0 = .ok (.iconst 0, 1) := by decide +kernel
theorem dX1_cardsOfOn_1 : decode cX1_cardsOfOn 1 = .ok (.istore_n 3, 1) := by decide +kernel
theorem dX1_cardsOfOn_2 : decode cX1_cardsOfOn 2 = .ok (.iconst 0, 1) := by decide +kernel
theorem dX1_cardsOfOn_3 : decode cX1_cardsOfOn 3 = .ok (.istore 4, 2) := by decide +kernel
theorem dX1_cardsOfOn_5 : decode cX1_cardsOfOn 5 = .ok (.iload 4, 2) := by decide +kernel
theorem dX1_cardsOfOn_7 : decode cX1_cardsOfOn 7 = .ok (.aload_n 0, 1) := by decide +kernel
theorem dX1_cardsOfOn_8 : decode cX1_cardsOfOn 8 = .ok (.getfield 37, 3) := by decide +kernel
theorem dX1_cardsOfOn_11 : decode cX1_cardsOfOn 11 = .ok (.if_icmp .ge 37, 3) := by decide +kernel
theorem dX1_cardsOfOn_14 : decode cX1_cardsOfOn 14 = .ok (.aload_n 0, 1) := by decide +kernel
theorem dX1_cardsOfOn_15 : decode cX1_cardsOfOn 15 = .ok (.getfield 9, 3) := by decide +kernel
theorem dX1_cardsOfOn_18 : decode cX1_cardsOfOn 18 = .ok (.iload 4, 2) := by decide +kernel
theorem dX1_cardsOfOn_20 : decode cX1_cardsOfOn 20 = .ok (.iaload, 1) := by decide +kernel
theorem dX1_cardsOfOn_21 : decode cX1_cardsOfOn 21 = .ok (.iload_n 1, 1) := by decide +kernel
theorem dX1_cardsOfOn_22 : decode cX1_cardsOfOn 22 = .ok (.if_icmp .ne 20, 3) := by decide +kernel
theorem dX1_cardsOfOn_25 : decode cX1_cardsOfOn 25 = .ok (.aload_n 0, 1) := by decide +kernel
theorem dX1_cardsOfOn_26 : decode cX1_cardsOfOn 26 = .ok (.getfield 33, 3) := by decide +kernel
theorem dX1_cardsOfOn_29 : decode cX1_cardsOfOn 29 = .ok (.getfield 79, 3) := by decide +kernel
theorem dX1_cardsOfOn_32 : decode cX1_cardsOfOn 32 = .ok (.iload 4, 2) := by decide +kernel
theorem dX1_cardsOfOn_34 : decode cX1_cardsOfOn 34 = .ok (.iaload, 1) := by decide +kernel
theorem dX1_cardsOfOn_35 : decode cX1_cardsOfOn 35 = .ok (.iload_n 2, 1) := by decide +kernel
theorem dX1_cardsOfOn_36 : decode cX1_cardsOfOn 36 = .ok (.if_icmp .ne 6, 3) := by decide +kernel
theorem dX1_cardsOfOn_39 : decode cX1_cardsOfOn 39 = .ok (.iinc 3 1, 3) := by decide +kernel
theorem dX1_cardsOfOn_42 : decode cX1_cardsOfOn 42 = .ok (.iinc 4 1, 3) := by decide +kernel
theorem dX1_cardsOfOn_45 : decode cX1_cardsOfOn 45 = .ok (.goto (-40), 3) := by decide +kernel
theorem dX1_cardsOfOn_48 : decode cX1_cardsOfOn 48 = .ok (.iload_n 3, 1) := by decide +kernel
theorem dX1_cardsOfOn_49 : decode cX1_cardsOfOn 49 = .ok (.ireturn, 1) := by decide +kernel
def F_X1_cardsOfOn_L5 (S : aSt) (a0 : Nat) (a1 : Int32) (a2 : Int32) (K48 : Int32 → Option Int32) : Nat → Int32 → Int32 → Option Int32
  | 0, _, _ => none
  | fu + 1, l5_3, l5_4 =>
    if (S.1 a0 7) ≤ l5_4 then (K48 l5_3) else
    rfd (S.2.2 a0 0) 7 fun k15 =>
    grd (inb l5_4 (SH k15).2) <|
    jn (fun (j42_3 : Int32) => (F_X1_cardsOfOn_L5 S a0 a1 a2 K48 fu j42_3 (l5_4 + (1 : Int32)) : Option Int32)) fun K42 =>
    if (S.1 k15 l5_4.toNatClampNeg) = a1 then (rfd (S.2.2 a0 6) 4 fun k26 =>
    rfd (S.2.2 k26 0) 7 fun k29 =>
    grd (inb l5_4 (SH k29).2) <|
    if (S.1 k29 l5_4.toNatClampNeg) = a2 then (K42 (l5_3 + (1 : Int32))) else
    K42 l5_3) else
    K42 l5_3
def F_X1_cardsOfOn (n : Nat) (S : aSt) (a0 : Nat) (a1 : Int32) (a2 : Int32) : Option Int32 :=
jn (fun (x48_3 : Int32) => (some x48_3 : Option Int32)) fun K48 =>
F_X1_cardsOfOn_L5 S a0 a1 a2 K48 n (0 : Int32) (0 : Int32)
set_option maxHeartbeats 4000000 in
set_option maxRecDepth 100000 in
theorem C_X1_cardsOfOn (G : aG) (l : Launch) (n : Nat) (S : aSt) (a0 : Nat) (a1 : Int32) (a2 : Int32) (r : Int32) (ha0 : isT a0 0 = true) (hf : F_X1_cardsOfOn n S a0 a1 a2 = some r) : Ctr G l yX1_cardsOfOn mX1_cardsOfOn (rmM 1) 97 97 S [.ref a0, .int a1, .int a2] (some (.int r)) S := by
  refine Ctr.of (by decide) rfl rfl (Nat.le_of_ble_eq_true rfl) [(0, .ref a0), (1, .int a1), (2, .int a2)] rfl ?_
  unfold F_X1_cardsOfOn at hf
  refine Go.iconst (0 : Int32) 1 rfl dX1_cardsOfOn_0 ci_0 ?_
  refine Go.istore_n 2 [(3, .int (0 : Int32)), (0, .ref a0), (1, .int a1), (2, .int a2)] rfl dX1_cardsOfOn_1 (by decide) rfl ?_
  refine Go.iconst (0 : Int32) 3 rfl dX1_cardsOfOn_2 ci_0 ?_
  refine Go.istore 5 [(4, .int (0 : Int32)), (3, .int (0 : Int32)), (0, .ref a0), (1, .int a1), (2, .int a2)] rfl dX1_cardsOfOn_3 (by decide) rfl ?_
  obtain ⟨K48, eK48, hf⟩ := f_jn hf
  have J48 : ∀ (x48_3 : Int32), K48 x48_3 = some r → GoM G l 1 (TmR G (some (.int r)) 97 S 0 0) mX1_cardsOfOn 48 [(3, .int x48_3)] [] S := by
    intro x48_3 hf
    rw [eK48] at hf
    refine Go.iload_n 0 49 rfl dX1_cardsOfOn_48 rfl ?_
    exact Go.ir rfl dX1_cardsOfOn_49 hf
  clear eK48
  have L5 : ∀ (fu : Nat) (l5_3 : Int32) (l5_4 : Int32), F_X1_cardsOfOn_L5 S a0 a1 a2 K48 fu l5_3 l5_4 = some r → GoM G l 1 (TmR G (some (.int r)) 97 S 0 0) mX1_cardsOfOn 5 [(0, .ref a0), (1, .int a1), (2, .int a2), (3, .int l5_3), (4, .int l5_4)] [] S := by
    intro fu
    induction fu with
    | zero => intro l5_3 l5_4 hf; rw [F_X1_cardsOfOn_L5] at hf; cases hf
    | succ fu ih =>
      intro l5_3 l5_4 hf
      rw [F_X1_cardsOfOn_L5] at hf
      refine Go.iload 4 7 rfl dX1_cardsOfOn_5 rfl ?_
      refine Go.aload_n 0 8 rfl dX1_cardsOfOn_7 rfl ?_
      refine Go.getI 11 rfl dX1_cardsOfOn_8 fl_X1_37 rfl (isT_lt ha0) (isT_sh ha0) ?_
      refine Go.icmp_ge 48 14 rfl dX1_cardsOfOn_11 rfl (fun hc => ?_) (fun hc => ?_)
      · replace hf := f_if hf hc
        exact Go.sub [3] [(3, .int l5_3)] rfl (J48 l5_3 hf)
      · replace hf := f_el hf hc
        refine Go.aload_n 0 15 rfl dX1_cardsOfOn_14 rfl ?_
        obtain ⟨k15, qk15, hk15, hf⟩ := f_rfd hf
        refine Go.getR 18 rfl dX1_cardsOfOn_15 fl_X1_9 rfl (isT_lt ha0) (isT_sh ha0) qk15 ?_
        refine Go.iload 4 20 rfl dX1_cardsOfOn_18 rfl ?_
        obtain ⟨g20, hf⟩ := f_grd hf
        refine Go.iald 21 rfl dX1_cardsOfOn_20 (isT_lt hk15) (isT_sh hk15) g20 ?_
        refine Go.iload_n 1 22 rfl dX1_cardsOfOn_21 rfl ?_
        obtain ⟨K42, eK42, hf⟩ := f_jn hf
        have J42 : ∀ (j42_3 : Int32), K42 j42_3 = some r → GoM G l 1 (TmR G (some (.int r)) 97 S 0 0) mX1_cardsOfOn 42 [(0, .ref a0), (1, .int a1), (2, .int a2), (3, .int j42_3), (4, .int l5_4)] [] S := by
          intro j42_3 hf
          rw [eK42] at hf
          refine Go.inc 4 45 (1 : Int32) [(4, .int (l5_4 + (1 : Int32))), (0, .ref a0), (1, .int a1), (2, .int a2), (3, .int j42_3)] rfl dX1_cardsOfOn_42 rfl ci_1 (by decide) rfl ?_
          refine Go.goto 5 dX1_cardsOfOn_45 rfl ?_
          exact Go.sub [1, 2, 3, 4, 0] [(0, .ref a0), (1, .int a1), (2, .int a2), (3, .int j42_3), (4, .int (l5_4 + (1 : Int32)))] rfl (ih j42_3 (l5_4 + (1 : Int32)) hf)
        clear eK42
        refine Go.icmp_ne 42 25 rfl dX1_cardsOfOn_22 rfl (fun hc => ?_) (fun hc => ?_)
        · replace hf := f_el hf hc
          exact J42 l5_3 hf
        · replace hf := f_if hf hc
          refine Go.aload_n 0 26 rfl dX1_cardsOfOn_25 rfl ?_
          obtain ⟨k26, qk26, hk26, hf⟩ := f_rfd hf
          refine Go.getR 29 rfl dX1_cardsOfOn_26 fl_X1_33 rfl (isT_lt ha0) (isT_sh ha0) qk26 ?_
          obtain ⟨k29, qk29, hk29, hf⟩ := f_rfd hf
          refine Go.getR 32 rfl dX1_cardsOfOn_29 fl_X1_79 rfl (isT_lt hk26) (isT_sh hk26) qk29 ?_
          refine Go.iload 4 34 rfl dX1_cardsOfOn_32 rfl ?_
          obtain ⟨g34, hf⟩ := f_grd hf
          refine Go.iald 35 rfl dX1_cardsOfOn_34 (isT_lt hk29) (isT_sh hk29) g34 ?_
          refine Go.iload_n 2 36 rfl dX1_cardsOfOn_35 rfl ?_
          refine Go.icmp_ne 42 39 rfl dX1_cardsOfOn_36 rfl (fun hc => ?_) (fun hc => ?_)
          · replace hf := f_el hf hc
            exact J42 l5_3 hf
          · replace hf := f_if hf hc
            refine Go.inc 3 42 (1 : Int32) [(3, .int (l5_3 + (1 : Int32))), (0, .ref a0), (1, .int a1), (2, .int a2), (4, .int l5_4)] rfl dX1_cardsOfOn_39 rfl ci_1 (by decide) rfl ?_
            exact Go.sub [1, 2, 3, 0, 4] [(0, .ref a0), (1, .int a1), (2, .int a2), (3, .int (l5_3 + (1 : Int32))), (4, .int l5_4)] rfl (J42 (l5_3 + (1 : Int32)) hf)
  exact Go.sub [2, 3, 4, 1, 0] [(0, .ref a0), (1, .int a1), (2, .int a2), (3, .int (0 : Int32)), (4, .int (0 : Int32))] rfl (L5 n (0 : Int32) (0 : Int32) hf)
theorem dX1_homeOf_0 : decode cX1_homeOf 0 = .ok (.iconst 0, 1) := by decide +kernel
theorem dX1_homeOf_1 : decode cX1_homeOf 1 = .ok (.istore_n 2, 1) := by decide +kernel
theorem dX1_homeOf_2 : decode cX1_homeOf 2 = .ok (.iconst 0, 1) := by decide +kernel
theorem dX1_homeOf_3 : decode cX1_homeOf 3 = .ok (.istore_n 3, 1) := by decide +kernel
theorem dX1_homeOf_4 : decode cX1_homeOf 4 = .ok (.iconst 0, 1) := by decide +kernel
theorem dX1_homeOf_5 : decode cX1_homeOf 5 = .ok (.istore 4, 2) := by decide +kernel
theorem dX1_homeOf_7 : decode cX1_homeOf 7 = .ok (.iload 4, 2) := by decide +kernel
theorem dX1_homeOf_9 : decode cX1_homeOf 9 = .ok (.iconst 4, 1) := by decide +kernel
theorem dX1_homeOf_10 : decode cX1_homeOf 10 = .ok (.if_icmp .ge 30, 3) := by decide +kernel
theorem dX1_homeOf_13 : decode cX1_homeOf 13 = .ok (.aload_n 0, 1) := by decide +kernel
theorem dX1_homeOf_14 : decode cX1_homeOf 14 = .ok (.iload_n 1, 1) := by decide +kernel
theorem dX1_homeOf_15 : decode cX1_homeOf 15 = .ok (.iload 4, 2) := by decide +kernel
theorem dX1_homeOf_17 : decode cX1_homeOf 17 = .ok (.invokevirtual 145, 3) := by decide +kernel
theorem dX1_homeOf_20 : decode cX1_homeOf 20 = .ok (.istore 5, 2) := by decide +kernel
theorem dX1_homeOf_22 : decode cX1_homeOf 22 = .ok (.iload 5, 2) := by decide +kernel
theorem dX1_homeOf_24 : decode cX1_homeOf 24 = .ok (.iload_n 3, 1) := by decide +kernel
theorem dX1_homeOf_25 : decode cX1_homeOf 25 = .ok (.if_icmp .le 9, 3) := by decide +kernel
theorem dX1_homeOf_28 : decode cX1_homeOf 28 = .ok (.iload 5, 2) := by decide +kernel
theorem dX1_homeOf_30 : decode cX1_homeOf 30 = .ok (.istore_n 3, 1) := by decide +kernel
theorem dX1_homeOf_31 : decode cX1_homeOf 31 = .ok (.iload 4, 2) := by decide +kernel
theorem dX1_homeOf_33 : decode cX1_homeOf 33 = .ok (.istore_n 2, 1) := by decide +kernel
theorem dX1_homeOf_34 : decode cX1_homeOf 34 = .ok (.iinc 4 1, 3) := by decide +kernel
theorem dX1_homeOf_37 : decode cX1_homeOf 37 = .ok (.goto (-30), 3) := by decide +kernel
theorem dX1_homeOf_40 : decode cX1_homeOf 40 = .ok (.iload_n 2, 1) := by decide +kernel
theorem dX1_homeOf_41 : decode cX1_homeOf 41 = .ok (.ireturn, 1) := by decide +kernel
def F_X1_homeOf_L7 (n : Nat) (S : aSt) (a0 : Nat) (a1 : Int32) (K40 : Int32 → Option Int32) : Nat → Int32 → Int32 → Int32 → Option Int32
  | 0, _, _, _ => none
  | fu + 1, l7_2, l7_3, l7_4 =>
    if (4 : Int32) ≤ l7_4 then (K40 l7_2) else
    (F_X1_cardsOfOn n S a0 a1 l7_4).bind fun r17 =>
    jn (fun (j34_2 : Int32) (j34_3 : Int32) => (F_X1_homeOf_L7 n S a0 a1 K40 fu j34_2 j34_3 (l7_4 + (1 : Int32)) : Option Int32)) fun K34 =>
    if r17 ≤ l7_3 then (K34 l7_2 l7_3) else
    K34 l7_4 r17
def F_X1_homeOf (n : Nat) (S : aSt) (a0 : Nat) (a1 : Int32) : Option Int32 :=
jn (fun (x40_2 : Int32) => (some x40_2 : Option Int32)) fun K40 =>
F_X1_homeOf_L7 n S a0 a1 K40 n (0 : Int32) (0 : Int32) (0 : Int32)
set_option maxHeartbeats 4000000 in
set_option maxRecDepth 100000 in
theorem C_X1_homeOf (G : aG) (l : Launch) (n : Nat) (S : aSt) (a0 : Nat) (a1 : Int32) (r : Int32) (ha0 : isT a0 0 = true) (hf : F_X1_homeOf n S a0 a1 = some r) : Ctr G l yX1_homeOf mX1_homeOf (rmM 2) 97 97 S [.ref a0, .int a1] (some (.int r)) S := by
  refine Ctr.of (by decide) rfl rfl (Nat.le_of_ble_eq_true rfl) [(0, .ref a0), (1, .int a1)] rfl ?_
  unfold F_X1_homeOf at hf
  refine Go.iconst (0 : Int32) 1 rfl dX1_homeOf_0 ci_0 ?_
  refine Go.istore_n 2 [(2, .int (0 : Int32)), (0, .ref a0), (1, .int a1)] rfl dX1_homeOf_1 (by decide) rfl ?_
  refine Go.iconst (0 : Int32) 3 rfl dX1_homeOf_2 ci_0 ?_
  refine Go.istore_n 4 [(3, .int (0 : Int32)), (2, .int (0 : Int32)), (0, .ref a0), (1, .int a1)] rfl dX1_homeOf_3 (by decide) rfl ?_
  refine Go.iconst (0 : Int32) 5 rfl dX1_homeOf_4 ci_0 ?_
  refine Go.istore 7 [(4, .int (0 : Int32)), (3, .int (0 : Int32)), (2, .int (0 : Int32)), (0, .ref a0), (1, .int a1)] rfl dX1_homeOf_5 (by decide) rfl ?_
  obtain ⟨K40, eK40, hf⟩ := f_jn hf
  have J40 : ∀ (x40_2 : Int32), K40 x40_2 = some r → GoM G l 2 (TmR G (some (.int r)) 97 S 0 0) mX1_homeOf 40 [(2, .int x40_2)] [] S := by
    intro x40_2 hf
    rw [eK40] at hf
    refine Go.iload_n 0 41 rfl dX1_homeOf_40 rfl ?_
    exact Go.ir rfl dX1_homeOf_41 hf
  clear eK40
  have L7 : ∀ (fu : Nat) (l7_2 : Int32) (l7_3 : Int32) (l7_4 : Int32), F_X1_homeOf_L7 n S a0 a1 K40 fu l7_2 l7_3 l7_4 = some r → GoM G l 2 (TmR G (some (.int r)) 97 S 0 0) mX1_homeOf 7 [(0, .ref a0), (1, .int a1), (2, .int l7_2), (3, .int l7_3), (4, .int l7_4)] [] S := by
    intro fu
    induction fu with
    | zero => intro l7_2 l7_3 l7_4 hf; rw [F_X1_homeOf_L7] at hf; cases hf
    | succ fu ih =>
      intro l7_2 l7_3 l7_4 hf
      rw [F_X1_homeOf_L7] at hf
      refine Go.iload 4 9 rfl dX1_homeOf_7 rfl ?_
      refine Go.iconst (4 : Int32) 10 rfl dX1_homeOf_9 ci_4 ?_
      refine Go.icmp_ge 40 13 rfl dX1_homeOf_10 rfl (fun hc => ?_) (fun hc => ?_)
      · replace hf := f_if hf hc
        exact Go.sub [2] [(2, .int l7_2)] rfl (J40 l7_2 hf)
      · replace hf := f_el hf hc
        refine Go.aload_n 0 14 rfl dX1_homeOf_13 rfl ?_
        refine Go.iload_n 1 15 rfl dX1_homeOf_14 rfl ?_
        refine Go.iload 4 17 rfl dX1_homeOf_15 rfl ?_
        obtain ⟨r17, er17, hf⟩ := f_bnd hf
        refine Go.cV 20 [.int a1, .int l7_4] [] (C_X1_cardsOfOn G l n S a0 a1 l7_4 r17 ha0 er17) rfl dX1_homeOf_17 cv_X1_145 ha0 (by decide) (by decide) rfl (Nat.le_of_ble_eq_true rfl) ?_
        refine Go.istore 22 [(5, .int r17), (0, .ref a0), (1, .int a1), (2, .int l7_2), (3, .int l7_3), (4, .int l7_4)] rfl dX1_homeOf_20 (by decide) rfl ?_
        refine Go.iload 0 24 rfl dX1_homeOf_22 rfl ?_
        refine Go.iload_n 4 25 rfl dX1_homeOf_24 rfl ?_
        obtain ⟨K34, eK34, hf⟩ := f_jn hf
        have J34 : ∀ (j34_2 : Int32) (j34_3 : Int32), K34 j34_2 j34_3 = some r → GoM G l 2 (TmR G (some (.int r)) 97 S 0 0) mX1_homeOf 34 [(0, .ref a0), (1, .int a1), (2, .int j34_2), (3, .int j34_3), (4, .int l7_4)] [] S := by
          intro j34_2 j34_3 hf
          rw [eK34] at hf
          refine Go.inc 4 37 (1 : Int32) [(4, .int (l7_4 + (1 : Int32))), (0, .ref a0), (1, .int a1), (2, .int j34_2), (3, .int j34_3)] rfl dX1_homeOf_34 rfl ci_1 (by decide) rfl ?_
          refine Go.goto 7 dX1_homeOf_37 rfl ?_
          exact Go.sub [1, 2, 3, 4, 0] [(0, .ref a0), (1, .int a1), (2, .int j34_2), (3, .int j34_3), (4, .int (l7_4 + (1 : Int32)))] rfl (ih j34_2 j34_3 (l7_4 + (1 : Int32)) hf)
        clear eK34
        refine Go.icmp_le 34 28 rfl dX1_homeOf_25 rfl (fun hc => ?_) (fun hc => ?_)
        · replace hf := f_if hf hc
          exact Go.sub [1, 2, 3, 4, 5] [(0, .ref a0), (1, .int a1), (2, .int l7_2), (3, .int l7_3), (4, .int l7_4)] rfl (J34 l7_2 l7_3 hf)
        · replace hf := f_el hf hc
          refine Go.iload 0 30 rfl dX1_homeOf_28 rfl ?_
          refine Go.istore_n 31 [(3, .int r17), (5, .int r17), (0, .ref a0), (1, .int a1), (2, .int l7_2), (4, .int l7_4)] rfl dX1_homeOf_30 (by decide) rfl ?_
          refine Go.iload 5 33 rfl dX1_homeOf_31 rfl ?_
          refine Go.istore_n 34 [(2, .int l7_4), (3, .int r17), (5, .int r17), (0, .ref a0), (1, .int a1), (4, .int l7_4)] rfl dX1_homeOf_33 (by decide) rfl ?_
          exact Go.sub [3, 4, 0, 1, 5] [(0, .ref a0), (1, .int a1), (2, .int l7_4), (3, .int r17), (4, .int l7_4)] rfl (J34 l7_4 r17 hf)
  exact Go.sub [3, 4, 2, 1, 0] [(0, .ref a0), (1, .int a1), (2, .int (0 : Int32)), (3, .int (0 : Int32)), (4, .int (0 : Int32))] rfl (L7 n (0 : Int32) (0 : Int32) (0 : Int32) hf)
theorem dX1_strayCards_0 : decode cX1_strayCards 0 = .ok (.iconst 0, 1) := by decide +kernel
theorem dX1_strayCards_1 : decode cX1_strayCards 1 = .ok (.istore_n 1, 1) := by decide +kernel
theorem dX1_strayCards_2 : decode cX1_strayCards 2 = .ok (.iconst 0, 1) := by decide +kernel
theorem dX1_strayCards_3 : decode cX1_strayCards 3 = .ok (.istore_n 2, 1) := by decide +kernel
theorem dX1_strayCards_4 : decode cX1_strayCards 4 = .ok (.iload_n 2, 1) := by decide +kernel
theorem dX1_strayCards_5 : decode cX1_strayCards 5 = .ok (.aload_n 0, 1) := by decide +kernel
theorem dX1_strayCards_6 : decode cX1_strayCards 6 = .ok (.getfield 37, 3) := by decide +kernel
theorem dX1_strayCards_9 : decode cX1_strayCards 9 = .ok (.if_icmp .ge 37, 3) := by decide +kernel
theorem dX1_strayCards_12 : decode cX1_strayCards 12 = .ok (.aload_n 0, 1) := by decide +kernel
theorem dX1_strayCards_13 : decode cX1_strayCards 13 = .ok (.getfield 33, 3) := by decide +kernel
theorem dX1_strayCards_16 : decode cX1_strayCards 16 = .ok (.getfield 79, 3) := by decide +kernel
theorem dX1_strayCards_19 : decode cX1_strayCards 19 = .ok (.iload_n 2, 1) := by decide +kernel
theorem dX1_strayCards_20 : decode cX1_strayCards 20 = .ok (.iaload, 1) := by decide +kernel
theorem dX1_strayCards_21 : decode cX1_strayCards 21 = .ok (.aload_n 0, 1) := by decide +kernel
theorem dX1_strayCards_22 : decode cX1_strayCards 22 = .ok (.aload_n 0, 1) := by decide +kernel
theorem dX1_strayCards_23 : decode cX1_strayCards 23 = .ok (.getfield 9, 3) := by decide +kernel
theorem dX1_strayCards_26 : decode cX1_strayCards 26 = .ok (.iload_n 2, 1) := by decide +kernel
theorem dX1_strayCards_27 : decode cX1_strayCards 27 = .ok (.iaload, 1) := by decide +kernel
theorem dX1_strayCards_28 : decode cX1_strayCards 28 = .ok (.invokevirtual 148, 3) := by decide +kernel
theorem dX1_strayCards_31 : decode cX1_strayCards 31 = .ok (.if_icmp .eq 9, 3) := by decide +kernel
theorem dX1_strayCards_34 : decode cX1_strayCards 34 = .ok (.iload_n 1, 1) := by decide +kernel
theorem dX1_strayCards_35 : decode cX1_strayCards 35 = .ok (.iconst 1, 1) := by decide +kernel
theorem dX1_strayCards_36 : decode cX1_strayCards 36 = .ok (.iload_n 2, 1) := by decide +kernel
theorem dX1_strayCards_37 : decode cX1_strayCards 37 = .ok (.ishl, 1) := by decide +kernel
theorem dX1_strayCards_38 : decode cX1_strayCards 38 = .ok (.ior, 1) := by decide +kernel
theorem dX1_strayCards_39 : decode cX1_strayCards 39 = .ok (.istore_n 1, 1) := by decide +kernel
theorem dX1_strayCards_40 : decode cX1_strayCards 40 = .ok (.iinc 2 1, 3) := by decide +kernel
theorem dX1_strayCards_43 : decode cX1_strayCards 43 = .ok (.goto (-39), 3) := by decide +kernel
theorem dX1_strayCards_46 : decode cX1_strayCards 46 = .ok (.iload_n 1, 1) := by decide +kernel
theorem dX1_strayCards_47 : decode cX1_strayCards 47 = .ok (.ireturn, 1) := by decide +kernel
def F_X1_strayCards_L4 (n : Nat) (S : aSt) (a0 : Nat) (K46 : Int32 → Option Int32) : Nat → Int32 → Int32 → Option Int32
  | 0, _, _ => none
  | fu + 1, l4_1, l4_2 =>
    if (S.1 a0 7) ≤ l4_2 then (K46 l4_1) else
    rfd (S.2.2 a0 6) 4 fun k13 =>
    rfd (S.2.2 k13 0) 7 fun k16 =>
    grd (inb l4_2 (SH k16).2) <|
    rfd (S.2.2 a0 0) 7 fun k23 =>
    grd (inb l4_2 (SH k23).2) <|
    (F_X1_homeOf n S a0 (S.1 k23 l4_2.toNatClampNeg)).bind fun r28 =>
    jn (fun (j40_1 : Int32) => (F_X1_strayCards_L4 n S a0 K46 fu j40_1 (l4_2 + (1 : Int32)) : Option Int32)) fun K40 =>
    if (S.1 k16 l4_2.toNatClampNeg) = r28 then (K40 l4_1) else
    nm (l4_1 ||| ((1 : Int32) <<< (l4_2 &&& 31))) fun v39 =>
    K40 v39
def F_X1_strayCards (n : Nat) (S : aSt) (a0 : Nat) : Option Int32 :=
jn (fun (x46_1 : Int32) => (some x46_1 : Option Int32)) fun K46 =>
F_X1_strayCards_L4 n S a0 K46 n (0 : Int32) (0 : Int32)
set_option maxHeartbeats 4000000 in
set_option maxRecDepth 100000 in
theorem C_X1_strayCards (G : aG) (l : Launch) (n : Nat) (S : aSt) (a0 : Nat) (r : Int32) (ha0 : isT a0 0 = true) (hf : F_X1_strayCards n S a0 = some r) : Ctr G l yX1_strayCards mX1_strayCards (rmM 3) 97 97 S [.ref a0] (some (.int r)) S := by
  refine Ctr.of (by decide) rfl rfl (Nat.le_of_ble_eq_true rfl) [(0, .ref a0)] rfl ?_
  unfold F_X1_strayCards at hf
  refine Go.iconst (0 : Int32) 1 rfl dX1_strayCards_0 ci_0 ?_
  refine Go.istore_n 2 [(1, .int (0 : Int32)), (0, .ref a0)] rfl dX1_strayCards_1 (by decide) rfl ?_
  refine Go.iconst (0 : Int32) 3 rfl dX1_strayCards_2 ci_0 ?_
  refine Go.istore_n 4 [(2, .int (0 : Int32)), (1, .int (0 : Int32)), (0, .ref a0)] rfl dX1_strayCards_3 (by decide) rfl ?_
  obtain ⟨K46, eK46, hf⟩ := f_jn hf
  have J46 : ∀ (x46_1 : Int32), K46 x46_1 = some r → GoM G l 3 (TmR G (some (.int r)) 97 S 0 0) mX1_strayCards 46 [(1, .int x46_1)] [] S := by
    intro x46_1 hf
    rw [eK46] at hf
    refine Go.iload_n 0 47 rfl dX1_strayCards_46 rfl ?_
    exact Go.ir rfl dX1_strayCards_47 hf
  clear eK46
  have L4 : ∀ (fu : Nat) (l4_1 : Int32) (l4_2 : Int32), F_X1_strayCards_L4 n S a0 K46 fu l4_1 l4_2 = some r → GoM G l 3 (TmR G (some (.int r)) 97 S 0 0) mX1_strayCards 4 [(0, .ref a0), (1, .int l4_1), (2, .int l4_2)] [] S := by
    intro fu
    induction fu with
    | zero => intro l4_1 l4_2 hf; rw [F_X1_strayCards_L4] at hf; cases hf
    | succ fu ih =>
      intro l4_1 l4_2 hf
      rw [F_X1_strayCards_L4] at hf
      refine Go.iload_n 2 5 rfl dX1_strayCards_4 rfl ?_
      refine Go.aload_n 0 6 rfl dX1_strayCards_5 rfl ?_
      refine Go.getI 9 rfl dX1_strayCards_6 fl_X1_37 rfl (isT_lt ha0) (isT_sh ha0) ?_
      refine Go.icmp_ge 46 12 rfl dX1_strayCards_9 rfl (fun hc => ?_) (fun hc => ?_)
      · replace hf := f_if hf hc
        exact Go.sub [1] [(1, .int l4_1)] rfl (J46 l4_1 hf)
      · replace hf := f_el hf hc
        refine Go.aload_n 0 13 rfl dX1_strayCards_12 rfl ?_
        obtain ⟨k13, qk13, hk13, hf⟩ := f_rfd hf
        refine Go.getR 16 rfl dX1_strayCards_13 fl_X1_33 rfl (isT_lt ha0) (isT_sh ha0) qk13 ?_
        obtain ⟨k16, qk16, hk16, hf⟩ := f_rfd hf
        refine Go.getR 19 rfl dX1_strayCards_16 fl_X1_79 rfl (isT_lt hk13) (isT_sh hk13) qk16 ?_
        refine Go.iload_n 2 20 rfl dX1_strayCards_19 rfl ?_
        obtain ⟨g20, hf⟩ := f_grd hf
        refine Go.iald 21 rfl dX1_strayCards_20 (isT_lt hk16) (isT_sh hk16) g20 ?_
        refine Go.aload_n 0 22 rfl dX1_strayCards_21 rfl ?_
        refine Go.aload_n 0 23 rfl dX1_strayCards_22 rfl ?_
        obtain ⟨k23, qk23, hk23, hf⟩ := f_rfd hf
        refine Go.getR 26 rfl dX1_strayCards_23 fl_X1_9 rfl (isT_lt ha0) (isT_sh ha0) qk23 ?_
        refine Go.iload_n 2 27 rfl dX1_strayCards_26 rfl ?_
        obtain ⟨g27, hf⟩ := f_grd hf
        refine Go.iald 28 rfl dX1_strayCards_27 (isT_lt hk23) (isT_sh hk23) g27 ?_
        obtain ⟨r28, er28, hf⟩ := f_bnd hf
        refine Go.cV 31 [.int (S.1 k23 l4_2.toNatClampNeg)] [.int (S.1 k16 l4_2.toNatClampNeg)] (C_X1_homeOf G l n S a0 (S.1 k23 l4_2.toNatClampNeg) r28 ha0 er28) rfl dX1_strayCards_28 cv_X1_148 ha0 (by decide) (by decide) rfl (Nat.le_of_ble_eq_true rfl) ?_
        obtain ⟨K40, eK40, hf⟩ := f_jn hf
        have J40 : ∀ (j40_1 : Int32), K40 j40_1 = some r → GoM G l 3 (TmR G (some (.int r)) 97 S 0 0) mX1_strayCards 40 [(0, .ref a0), (1, .int j40_1), (2, .int l4_2)] [] S := by
          intro j40_1 hf
          rw [eK40] at hf
          refine Go.inc 2 43 (1 : Int32) [(2, .int (l4_2 + (1 : Int32))), (0, .ref a0), (1, .int j40_1)] rfl dX1_strayCards_40 rfl ci_1 (by decide) rfl ?_
          refine Go.goto 4 dX1_strayCards_43 rfl ?_
          exact Go.sub [1, 2, 0] [(0, .ref a0), (1, .int j40_1), (2, .int (l4_2 + (1 : Int32)))] rfl (ih j40_1 (l4_2 + (1 : Int32)) hf)
        clear eK40
        refine Go.icmp_eq 40 34 rfl dX1_strayCards_31 rfl (fun hc => ?_) (fun hc => ?_)
        · replace hf := f_if hf hc
          exact J40 l4_1 hf
        · replace hf := f_el hf hc
          refine Go.iload_n 1 35 rfl dX1_strayCards_34 rfl ?_
          refine Go.iconst (1 : Int32) 36 rfl dX1_strayCards_35 ci_1 ?_
          refine Go.iload_n 2 37 rfl dX1_strayCards_36 rfl ?_
          refine Go.ishl 38 rfl dX1_strayCards_37 ?_
          refine Go.ior 39 rfl dX1_strayCards_38 ?_
          obtain ⟨v39, ev39, hf⟩ := f_nm hf
          refine Go.topi v39 ev39 ?_
          refine Go.istore_n 40 [(1, .int v39), (0, .ref a0), (2, .int l4_2)] rfl dX1_strayCards_39 (by decide) rfl ?_
          exact Go.sub [1, 0, 2] [(0, .ref a0), (1, .int v39), (2, .int l4_2)] rfl (J40 v39 hf)
  exact Go.sub [2, 1, 0] [(0, .ref a0), (1, .int (0 : Int32)), (2, .int (0 : Int32))] rfl (L4 n (0 : Int32) (0 : Int32) hf)
