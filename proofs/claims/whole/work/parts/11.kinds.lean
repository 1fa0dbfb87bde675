/-! written by program: X0_ofLetter X0_isA X0_meaning -/
theorem dX0_ofLetter_0 : decode cX0_ofLetter 0 = .ok (.iconst 0, 1) := by decide +kernel
theorem dX0_ofLetter_1 : decode cX0_ofLetter 1 = .ok (.istore_n 1, 1) := by decide +kernel
theorem dX0_ofLetter_2 : decode cX0_ofLetter 2 = .ok (.iload_n 1, 1) := by decide +kernel
theorem dX0_ofLetter_3 : decode cX0_ofLetter 3 = .ok (.bipush 6, 2) := by decide +kernel
theorem dX0_ofLetter_5 : decode cX0_ofLetter 5 = .ok (.if_icmp .ge 20, 3) := by decide +kernel
theorem dX0_ofLetter_8 : decode cX0_ofLetter 8 = .ok (.getstatic 9, 3) := by decide +kernel
theorem dX0_ofLetter_11 : decode cX0_ofLetter 11 = .ok (.iload_n 1, 1) := by decide +kernel
theorem dX0_ofLetter_12 : decode cX0_ofLetter 12 = .ok (.iaload, 1) := by decide +kernel
theorem dX0_ofLetter_13 : decode cX0_ofLetter 13 = .ok (.iload_n 0, 1) := by decide +kernel
theorem dX0_ofLetter_14 : decode cX0_ofLetter 14 = .ok (.if_icmp .ne 5, 3) := by decide +kernel
theorem dX0_ofLetter_17 : decode cX0_ofLetter 17 = .ok (.iload_n 1, 1) := by decide +kernel
theorem dX0_ofLetter_18 : decode cX0_ofLetter 18 = .ok (.ireturn, 1) := by decide +kernel
theorem dX0_ofLetter_19 : decode cX0_ofLetter 19 = .ok (.iinc 1 1, 3) := by decide +kernel
theorem dX0_ofLetter_22 : decode cX0_ofLetter 22 = .ok (.goto (-20), 3) := by decide +kernel
theorem dX0_ofLetter_25 : decode cX0_ofLetter 25 = .ok (.bipush (-9), 2) := by decide +kernel
theorem dX0_ofLetter_27 : decode cX0_ofLetter 27 = .ok (.ireturn, 1) := by decide +kernel
def F_X0_ofLetter_L2 (a0 : Int32) (K25 : Option Int32) : Nat → Int32 → Option Int32
  | 0, _ => none
  | fu + 1, l2_1 =>
    if (6 : Int32) ≤ l2_1 then (K25) else
    grd (inb l2_1 6) <|
    if (am_let l2_1.toNatClampNeg) = a0 then (some l2_1) else
    F_X0_ofLetter_L2 a0 K25 fu (l2_1 + (1 : Int32))
def F_X0_ofLetter (n : Nat) (S : aSt) (a0 : Int32) : Option Int32 :=
jn ((some (-9 : Int32) : Option Int32)) fun K25 =>
F_X0_ofLetter_L2 a0 K25 n (0 : Int32)
set_option maxHeartbeats 4000000 in
set_option maxRecDepth 100000 in
theorem C_X0_ofLetter (G : aG) (l : Launch) (n : Nat) (S : aSt) (a0 : Int32) (r : Int32)  (hf : F_X0_ofLetter n S a0 = some r) : Ctr G l yX0_ofLetter mX0_ofLetter (rmM 1) 97 97 S [.int a0] (some (.int r)) S := by
  refine Ctr.of (by decide) rfl rfl (Nat.le_of_ble_eq_true rfl) [(0, .int a0)] rfl ?_
  unfold F_X0_ofLetter at hf
  refine Go.iconst (0 : Int32) 1 rfl dX0_ofLetter_0 ci_0 ?_
  refine Go.istore_n 2 [(1, .int (0 : Int32)), (0, .int a0)] rfl dX0_ofLetter_1 (by decide) rfl ?_
  obtain ⟨K25, eK25, hf⟩ := f_jn hf
  have J25 : K25 = some r → GoM G l 1 (TmR G (some (.int r)) 97 S 0 0) mX0_ofLetter 25 [] [] S := by
    intro hf
    rw [eK25] at hf
    refine Go.bipush (-9 : Int32) 27 rfl dX0_ofLetter_25 cb_m9 ?_
    exact Go.ir rfl dX0_ofLetter_27 hf
  clear eK25
  have L2 : ∀ (fu : Nat) (l2_1 : Int32), F_X0_ofLetter_L2 a0 K25 fu l2_1 = some r → GoM G l 1 (TmR G (some (.int r)) 97 S 0 0) mX0_ofLetter 2 [(0, .int a0), (1, .int l2_1)] [] S := by
    intro fu
    induction fu with
    | zero => intro l2_1 hf; rw [F_X0_ofLetter_L2] at hf; cases hf
    | succ fu ih =>
      intro l2_1 hf
      rw [F_X0_ofLetter_L2] at hf
      refine Go.iload_n 1 3 rfl dX0_ofLetter_2 rfl ?_
      refine Go.bipush (6 : Int32) 5 rfl dX0_ofLetter_3 cb_6 ?_
      refine Go.icmp_ge 25 8 rfl dX0_ofLetter_5 rfl (fun hc => ?_) (fun hc => ?_)
      · replace hf := f_if hf hc
        exact Go.sub [] [] rfl (J25 hf)
      · replace hf := f_el hf hc
        refine Go.gets 11 rfl dX0_ofLetter_8 (am_mem 380 (by decide +kernel) rfl) ?_
        refine Go.iload_n 1 12 rfl dX0_ofLetter_11 rfl ?_
        obtain ⟨g12, hf⟩ := f_grd hf
        refine Go.ildT 13 rfl dX0_ofLetter_12 g12 ?_
        refine Go.iload_n 0 14 rfl dX0_ofLetter_13 rfl ?_
        refine Go.icmp_ne 19 17 rfl dX0_ofLetter_14 rfl (fun hc => ?_) (fun hc => ?_)
        · replace hf := f_el hf hc
          refine Go.inc 1 22 (1 : Int32) [(1, .int (l2_1 + (1 : Int32))), (0, .int a0)] rfl dX0_ofLetter_19 rfl ci_1 (by decide) rfl ?_
          refine Go.goto 2 dX0_ofLetter_22 rfl ?_
          exact Go.sub [1, 0] [(0, .int a0), (1, .int (l2_1 + (1 : Int32)))] rfl (ih (l2_1 + (1 : Int32)) hf)
        · replace hf := f_if hf hc
          refine Go.iload_n 1 18 rfl dX0_ofLetter_17 rfl ?_
          exact Go.ir rfl dX0_ofLetter_18 hf
  exact Go.sub [1, 0] [(0, .int a0), (1, .int (0 : Int32))] rfl (L2 n (0 : Int32) hf)
theorem dX0_isA_0 : decode cX0_isA 0 = .ok (.iload_n 1, 1) := by decide +kernel
theorem dX0_isA_1 : decode cX0_isA 1 = .ok (.ifCond .eq 28, 3) := by decide +kernel
theorem dX0_isA_4 : decode cX0_isA 4 = .ok (.iload_n 0, 1) := by decide +kernel
theorem dX0_isA_5 : decode cX0_isA 5 = .ok (.iload_n 1, 1) := by decide +kernel
theorem dX0_isA_6 : decode cX0_isA 6 = .ok (.if_icmp .eq 23, 3) := by decide +kernel
theorem dX0_isA_9 : decode cX0_isA 9 = .ok (.iload_n 1, 1) := by decide +kernel
theorem dX0_isA_10 : decode cX0_isA 10 = .ok (.iconst 1, 1) := by decide +kernel
theorem dX0_isA_11 : decode cX0_isA 11 = .ok (.if_icmp .ne 8, 3) := by decide +kernel
theorem dX0_isA_14 : decode cX0_isA 14 = .ok (.iload_n 0, 1) := by decide +kernel
theorem dX0_isA_15 : decode cX0_isA 15 = .ok (.iconst 3, 1) := by decide +kernel
theorem dX0_isA_16 : decode cX0_isA 16 = .ok (.if_icmp .eq 13, 3) := by decide +kernel
theorem dX0_isA_19 : decode cX0_isA 19 = .ok (.iload_n 1, 1) := by decide +kernel
theorem dX0_isA_20 : decode cX0_isA 20 = .ok (.iconst 2, 1) := by decide +kernel
theorem dX0_isA_21 : decode cX0_isA 21 = .ok (.if_icmp .ne 12, 3) := by decide +kernel
theorem dX0_isA_24 : decode cX0_isA 24 = .ok (.iload_n 0, 1) := by decide +kernel
theorem dX0_isA_25 : decode cX0_isA 25 = .ok (.iconst 5, 1) := by decide +kernel
theorem dX0_isA_26 : decode cX0_isA 26 = .ok (.if_icmp .ne 7, 3) := by decide +kernel
theorem dX0_isA_29 : decode cX0_isA 29 = .ok (.iconst 1, 1) := by decide +kernel
theorem dX0_isA_30 : decode cX0_isA 30 = .ok (.goto 4, 3) := by decide +kernel
theorem dX0_isA_33 : decode cX0_isA 33 = .ok (.iconst 0, 1) := by decide +kernel
theorem dX0_isA_34 : decode cX0_isA 34 = .ok (.ireturn, 1) := by decide +kernel
def F_X0_isA (n : Nat) (S : aSt) (a0 : Int32) (a1 : Int32) : Option Int32 :=
if a1 = 0 then (some (1 : Int32)) else
if a0 = a1 then (some (1 : Int32)) else
jn ((if a1 = (2 : Int32) then (if a0 = (5 : Int32) then (some (1 : Int32)) else
some (0 : Int32)) else
some (0 : Int32) : Option Int32)) fun K19 =>
if a1 = (1 : Int32) then (if a0 = (3 : Int32) then (some (1 : Int32)) else
K19) else
K19
set_option maxHeartbeats 4000000 in
set_option maxRecDepth 100000 in
theorem C_X0_isA (G : aG) (l : Launch) (n : Nat) (S : aSt) (a0 : Int32) (a1 : Int32) (r : Int32)  (hf : F_X0_isA n S a0 a1 = some r) : Ctr G l yX0_isA mX0_isA (rmM 1) 97 97 S [.int a0, .int a1] (some (.int r)) S := by
  refine Ctr.of (by decide) rfl rfl (Nat.le_of_ble_eq_true rfl) [(0, .int a0), (1, .int a1)] rfl ?_
  unfold F_X0_isA at hf
  refine Go.iload_n 1 1 rfl dX0_isA_0 rfl ?_
  refine Go.if_eq 29 4 rfl dX0_isA_1 rfl (fun hc => ?_) (fun hc => ?_)
  · replace hf := f_if hf hc
    refine Go.iconst (1 : Int32) 30 rfl dX0_isA_29 ci_1 ?_
    refine Go.goto 34 dX0_isA_30 rfl ?_
    exact Go.zr rfl (Or.inr rfl) dX0_isA_34 hf
  · replace hf := f_el hf hc
    refine Go.iload_n 0 5 rfl dX0_isA_4 rfl ?_
    refine Go.iload_n 1 6 rfl dX0_isA_5 rfl ?_
    refine Go.icmp_eq 29 9 rfl dX0_isA_6 rfl (fun hc => ?_) (fun hc => ?_)
    · replace hf := f_if hf hc
      refine Go.iconst (1 : Int32) 30 rfl dX0_isA_29 ci_1 ?_
      refine Go.goto 34 dX0_isA_30 rfl ?_
      exact Go.zr rfl (Or.inr rfl) dX0_isA_34 hf
    · replace hf := f_el hf hc
      refine Go.iload_n 1 10 rfl dX0_isA_9 rfl ?_
      refine Go.iconst (1 : Int32) 11 rfl dX0_isA_10 ci_1 ?_
      obtain ⟨K19, eK19, hf⟩ := f_jn hf
      have J19 : K19 = some r → GoM G l 1 (TmR G (some (.int r)) 97 S 0 0) mX0_isA 19 [(0, .int a0), (1, .int a1)] [] S := by
        intro hf
        rw [eK19] at hf
        refine Go.iload_n 1 20 rfl dX0_isA_19 rfl ?_
        refine Go.iconst (2 : Int32) 21 rfl dX0_isA_20 ci_2 ?_
        refine Go.icmp_ne 33 24 rfl dX0_isA_21 rfl (fun hc => ?_) (fun hc => ?_)
        · replace hf := f_el hf hc
          refine Go.iconst (0 : Int32) 34 rfl dX0_isA_33 ci_0 ?_
          exact Go.zr rfl (Or.inl rfl) dX0_isA_34 hf
        · replace hf := f_if hf hc
          refine Go.iload_n 0 25 rfl dX0_isA_24 rfl ?_
          refine Go.iconst (5 : Int32) 26 rfl dX0_isA_25 ci_5 ?_
          refine Go.icmp_ne 33 29 rfl dX0_isA_26 rfl (fun hc => ?_) (fun hc => ?_)
          · replace hf := f_el hf hc
            refine Go.iconst (0 : Int32) 34 rfl dX0_isA_33 ci_0 ?_
            exact Go.zr rfl (Or.inl rfl) dX0_isA_34 hf
          · replace hf := f_if hf hc
            refine Go.iconst (1 : Int32) 30 rfl dX0_isA_29 ci_1 ?_
            refine Go.goto 34 dX0_isA_30 rfl ?_
            exact Go.zr rfl (Or.inr rfl) dX0_isA_34 hf
      clear eK19
      refine Go.icmp_ne 19 14 rfl dX0_isA_11 rfl (fun hc => ?_) (fun hc => ?_)
      · replace hf := f_el hf hc
        exact J19 hf
      · replace hf := f_if hf hc
        refine Go.iload_n 0 15 rfl dX0_isA_14 rfl ?_
        refine Go.iconst (3 : Int32) 16 rfl dX0_isA_15 ci_3 ?_
        refine Go.icmp_eq 29 19 rfl dX0_isA_16 rfl (fun hc => ?_) (fun hc => ?_)
        · replace hf := f_if hf hc
          refine Go.iconst (1 : Int32) 30 rfl dX0_isA_29 ci_1 ?_
          refine Go.goto 34 dX0_isA_30 rfl ?_
          exact Go.zr rfl (Or.inr rfl) dX0_isA_34 hf
        · replace hf := f_el hf hc
          exact J19 hf
theorem dX0_meaning_0 : decode cX0_meaning 0 = .ok (.iload_n 0, 1) := by decide +kernel
theorem dX0_meaning_1 : decode cX0_meaning 1 = .ok (.tableswitch 62 1 5 #[35, 62, 46, 55, 48], 35) := by decide +kernel
theorem dX0_meaning_36 : decode cX0_meaning 36 = .ok (.iload_n 1, 1) := by decide +kernel
theorem dX0_meaning_37 : decode cX0_meaning 37 = .ok (.iconst 5, 1) := by decide +kernel
theorem dX0_meaning_38 : decode cX0_meaning 38 = .ok (.if_icmp .lt 7, 3) := by decide +kernel
theorem dX0_meaning_41 : decode cX0_meaning 41 = .ok (.iconst 1, 1) := by decide +kernel
theorem dX0_meaning_42 : decode cX0_meaning 42 = .ok (.goto 4, 3) := by decide +kernel
theorem dX0_meaning_45 : decode cX0_meaning 45 = .ok (.iconst 0, 1) := by decide +kernel
theorem dX0_meaning_46 : decode cX0_meaning 46 = .ok (.ireturn, 1) := by decide +kernel
theorem dX0_meaning_47 : decode cX0_meaning 47 = .ok (.iconst 0, 1) := by decide +kernel
theorem dX0_meaning_48 : decode cX0_meaning 48 = .ok (.ireturn, 1) := by decide +kernel
theorem dX0_meaning_49 : decode cX0_meaning 49 = .ok (.iload_n 1, 1) := by decide +kernel
theorem dX0_meaning_50 : decode cX0_meaning 50 = .ok (.iconst 1, 1) := by decide +kernel
theorem dX0_meaning_51 : decode cX0_meaning 51 = .ok (.iadd, 1) := by decide +kernel
theorem dX0_meaning_52 : decode cX0_meaning 52 = .ok (.bipush 10, 2) := by decide +kernel
theorem dX0_meaning_54 : decode cX0_meaning 54 = .ok (.irem, 1) := by decide +kernel
theorem dX0_meaning_55 : decode cX0_meaning 55 = .ok (.ireturn, 1) := by decide +kernel
theorem dX0_meaning_56 : decode cX0_meaning 56 = .ok (.iload_n 1, 1) := by decide +kernel
theorem dX0_meaning_57 : decode cX0_meaning 57 = .ok (.iload_n 2, 1) := by decide +kernel
theorem dX0_meaning_58 : decode cX0_meaning 58 = .ok (.iadd, 1) := by decide +kernel
theorem dX0_meaning_59 : decode cX0_meaning 59 = .ok (.bipush 10, 2) := by decide +kernel
theorem dX0_meaning_61 : decode cX0_meaning 61 = .ok (.irem, 1) := by decide +kernel
theorem dX0_meaning_62 : decode cX0_meaning 62 = .ok (.ireturn, 1) := by decide +kernel
theorem dX0_meaning_63 : decode cX0_meaning 63 = .ok (.iload_n 1, 1) := by decide +kernel
theorem dX0_meaning_64 : decode cX0_meaning 64 = .ok (.ireturn, 1) := by decide +kernel
def F_X0_meaning (n : Nat) (S : aSt) (a0 : Int32) (a1 : Int32) (a2 : Int32) : Option Int32 :=
if a0 = (1 : Int32) then (if a1 < (5 : Int32) then (some (0 : Int32)) else
some (1 : Int32)) else
if a0 = (2 : Int32) then (some a1) else
if a0 = (3 : Int32) then (some (0 : Int32)) else
if a0 = (4 : Int32) then (some ((a1 + a2) - (a1 + a2) / (10 : Int32) * (10 : Int32))) else
if a0 = (5 : Int32) then (some ((a1 + (1 : Int32)) - (a1 + (1 : Int32)) / (10 : Int32) * (10 : Int32))) else
some a1
set_option maxHeartbeats 4000000 in
set_option maxRecDepth 100000 in
theorem C_X0_meaning (G : aG) (l : Launch) (n : Nat) (S : aSt) (a0 : Int32) (a1 : Int32) (a2 : Int32) (r : Int32)  (hf : F_X0_meaning n S a0 a1 a2 = some r) : Ctr G l yX0_meaning mX0_meaning (rmM 1) 97 97 S [.int a0, .int a1, .int a2] (some (.int r)) S := by
  refine Ctr.of (by decide) rfl rfl (Nat.le_of_ble_eq_true rfl) [(0, .int a0), (1, .int a1), (2, .int a2)] rfl ?_
  unfold F_X0_meaning at hf
  refine Go.iload_n 0 1 rfl dX0_meaning_0 rfl ?_
  by_cases hs1_0 : a0 = (1 : Int32)
  · replace hf := f_if hf hs1_0
    refine Go.tin (1 : Int32) 36 hs1_0 dX0_meaning_1 (by decide) (by decide) rfl rfl ?_
    refine Go.iload_n 1 37 rfl dX0_meaning_36 rfl ?_
    refine Go.iconst (5 : Int32) 38 rfl dX0_meaning_37 ci_5 ?_
    refine Go.icmp_lt 45 41 rfl dX0_meaning_38 rfl (fun hc => ?_) (fun hc => ?_)
    · replace hf := f_if hf hc
      refine Go.iconst (0 : Int32) 46 rfl dX0_meaning_45 ci_0 ?_
      exact Go.ir rfl dX0_meaning_46 hf
    · replace hf := f_el hf hc
      refine Go.iconst (1 : Int32) 42 rfl dX0_meaning_41 ci_1 ?_
      refine Go.goto 46 dX0_meaning_42 rfl ?_
      exact Go.ir rfl dX0_meaning_46 hf
  replace hf := f_el hf hs1_0
  by_cases hs1_1 : a0 = (2 : Int32)
  · replace hf := f_if hf hs1_1
    refine Go.tin (2 : Int32) 63 hs1_1 dX0_meaning_1 (by decide) (by decide) rfl rfl ?_
    refine Go.iload_n 1 64 rfl dX0_meaning_63 rfl ?_
    exact Go.ir rfl dX0_meaning_64 hf
  replace hf := f_el hf hs1_1
  by_cases hs1_2 : a0 = (3 : Int32)
  · replace hf := f_if hf hs1_2
    refine Go.tin (3 : Int32) 47 hs1_2 dX0_meaning_1 (by decide) (by decide) rfl rfl ?_
    refine Go.iconst (0 : Int32) 48 rfl dX0_meaning_47 ci_0 ?_
    exact Go.ir rfl dX0_meaning_48 hf
  replace hf := f_el hf hs1_2
  by_cases hs1_3 : a0 = (4 : Int32)
  · replace hf := f_if hf hs1_3
    refine Go.tin (4 : Int32) 56 hs1_3 dX0_meaning_1 (by decide) (by decide) rfl rfl ?_
    refine Go.iload_n 1 57 rfl dX0_meaning_56 rfl ?_
    refine Go.iload_n 2 58 rfl dX0_meaning_57 rfl ?_
    refine Go.iadd 59 rfl dX0_meaning_58 ?_
    refine Go.bipush (10 : Int32) 61 rfl dX0_meaning_59 cb_10 ?_
    refine Go.irem 62 rfl dX0_meaning_61 (by decide) ?_
    exact Go.ir rfl dX0_meaning_62 hf
  replace hf := f_el hf hs1_3
  by_cases hs1_4 : a0 = (5 : Int32)
  · replace hf := f_if hf hs1_4
    refine Go.tin (5 : Int32) 49 hs1_4 dX0_meaning_1 (by decide) (by decide) rfl rfl ?_
    refine Go.iload_n 1 50 rfl dX0_meaning_49 rfl ?_
    refine Go.iconst (1 : Int32) 51 rfl dX0_meaning_50 ci_1 ?_
    refine Go.iadd 52 rfl dX0_meaning_51 ?_
    refine Go.bipush (10 : Int32) 54 rfl dX0_meaning_52 cb_10 ?_
    refine Go.irem 55 rfl dX0_meaning_54 (by decide) ?_
    exact Go.ir rfl dX0_meaning_55 hf
  replace hf := f_el hf hs1_4
  have nhs1_0 := tsw_ne (z := 1) hs1_0 (by decide)
  have nhs1_1 := tsw_ne (z := 2) hs1_1 (by decide)
  have nhs1_2 := tsw_ne (z := 3) hs1_2 (by decide)
  have nhs1_3 := tsw_ne (z := 4) hs1_3 (by decide)
  have nhs1_4 := tsw_ne (z := 5) hs1_4 (by decide)
  refine Go.tout 63 dX0_meaning_1 (by omega) rfl ?_
  refine Go.iload_n 1 64 rfl dX0_meaning_63 rfl ?_
  exact Go.ir rfl dX0_meaning_64 hf
