/-! written by program: J7_fill_53178 J6_bitCount_0f7a4 -/
theorem dJ7_fill_53178_0 : decode cJ7_fill_53178 0 = .ok (.iconst 0, 1) := by decide +kernel
theorem dJ7_fill_53178_1 : decode cJ7_fill_53178 1 = .ok (.istore_n 2, 1) := by decide +kernel
theorem dJ7_fill_53178_2 : decode cJ7_fill_53178 2 = .ok (.aload_n 0, 1) := by decide +kernel
theorem dJ7_fill_53178_3 : decode cJ7_fill_53178 3 = .ok (.arraylength, 1) := by decide +kernel
theorem dJ7_fill_53178_4 : decode cJ7_fill_53178 4 = .ok (.istore_n 3, 1) := by decide +kernel
theorem dJ7_fill_53178_5 : decode cJ7_fill_53178 5 = .ok (.iload_n 2, 1) := by decide +kernel
theorem dJ7_fill_53178_6 : decode cJ7_fill_53178 6 = .ok (.iload_n 3, 1) := by decide +kernel
theorem dJ7_fill_53178_7 : decode cJ7_fill_53178 7 = .ok (.if_icmp .ge 13, 3) := by decide +kernel
theorem dJ7_fill_53178_10 : decode cJ7_fill_53178 10 = .ok (.aload_n 0, 1) := by decide +kernel
theorem dJ7_fill_53178_11 : decode cJ7_fill_53178 11 = .ok (.iload_n 2, 1) := by decide +kernel
theorem dJ7_fill_53178_12 : decode cJ7_fill_53178 12 = .ok (.iload_n 1, 1) := by decide +kernel
theorem dJ7_fill_53178_13 : decode cJ7_fill_53178 13 = .ok (.iastore, 1) := by decide +kernel
theorem dJ7_fill_53178_14 : decode cJ7_fill_53178 14 = .ok (.iinc 2 1, 3) := by decide +kernel
theorem dJ7_fill_53178_17 : decode cJ7_fill_53178 17 = .ok (.goto (-12), 3) := by decide +kernel
theorem dJ7_fill_53178_20 : decode cJ7_fill_53178 20 = .ok (.return_, 1) := by decide +kernel
def F_J7_fill_53178_L5 (a0 : Nat) (a1 : Int32) (v4 : Int32) (K20 : aSt → Option aSt) : Nat → Int32 → aSt → Option aSt
  | 0, _, _ => none
  | fu + 1, l5_2, l5S =>
    if v4 ≤ l5_2 then (K20 l5S) else
    grd (inb l5_2 (SH a0).2) <|
    nm (stI l5S a0 l5_2.toNatClampNeg a1) fun S13 =>
    F_J7_fill_53178_L5 a0 a1 v4 K20 fu (l5_2 + (1 : Int32)) S13
def F_J7_fill_53178 (n : Nat) (S : aSt) (a0 : Nat) (a1 : Int32) : Option aSt :=
nm (Int32.ofNat (SH a0).2) fun v4 =>
jn (fun (x20S : aSt) => (some x20S : Option aSt)) fun K20 =>
F_J7_fill_53178_L5 a0 a1 v4 K20 n (0 : Int32) S
set_option maxHeartbeats 4000000 in
set_option maxRecDepth 100000 in
theorem C_J7_fill_53178 (G : aG) (l : Launch) (n : Nat) (S : aSt) (a0 : Nat) (a1 : Int32) (Sr : aSt) (ha0 : isT a0 7 = true) (hf : F_J7_fill_53178 n S a0 a1 = some Sr) : Ctr G l yJ7_fill_53178 mJ7_fill_53178 (rmM 1) 97 97 S [.ref a0, .int a1] none Sr := by
  refine Ctr.of (by decide) rfl rfl (Nat.le_of_ble_eq_true rfl) [(0, .ref a0), (1, .int a1)] rfl ?_
  unfold F_J7_fill_53178 at hf
  refine Go.iconst (0 : Int32) 1 rfl dJ7_fill_53178_0 ci_0 ?_
  refine Go.istore_n 2 [(2, .int (0 : Int32)), (0, .ref a0), (1, .int a1)] rfl dJ7_fill_53178_1 (by decide) rfl ?_
  refine Go.aload_n 1 3 rfl dJ7_fill_53178_2 rfl ?_
  refine Go.alenI 4 rfl dJ7_fill_53178_3 (isT_lt ha0) (isT_sh ha0) ?_
  obtain ⟨v4, ev4, hf⟩ := f_nm hf
  refine Go.topi v4 ev4 ?_
  refine Go.istore_n 5 [(3, .int v4), (2, .int (0 : Int32)), (0, .ref a0), (1, .int a1)] rfl dJ7_fill_53178_4 (by decide) rfl ?_
  obtain ⟨K20, eK20, hf⟩ := f_jn hf
  have J20 : ∀ (x20S : aSt), K20 x20S = some Sr → GoM G l 1 (TmR G none 97 Sr 0 0) mJ7_fill_53178 20 [] [] x20S := by
    intro x20S hf
    rw [eK20] at hf
    exact Go.vr rfl dJ7_fill_53178_20 hf
  clear eK20
  have L5 : ∀ (fu : Nat) (l5_2 : Int32) (l5S : aSt), F_J7_fill_53178_L5 a0 a1 v4 K20 fu l5_2 l5S = some Sr → GoM G l 1 (TmR G none 97 Sr 0 0) mJ7_fill_53178 5 [(0, .ref a0), (1, .int a1), (2, .int l5_2), (3, .int v4)] [] l5S := by
    intro fu
    induction fu with
    | zero => intro l5_2 l5S hf; rw [F_J7_fill_53178_L5] at hf; cases hf
    | succ fu ih =>
      intro l5_2 l5S hf
      rw [F_J7_fill_53178_L5] at hf
      refine Go.iload_n 2 6 rfl dJ7_fill_53178_5 rfl ?_
      refine Go.iload_n 3 7 rfl dJ7_fill_53178_6 rfl ?_
      refine Go.icmp_ge 20 10 rfl dJ7_fill_53178_7 rfl (fun hc => ?_) (fun hc => ?_)
      · replace hf := f_if hf hc
        exact Go.sub [] [] rfl (J20 l5S hf)
      · replace hf := f_el hf hc
        refine Go.aload_n 0 11 rfl dJ7_fill_53178_10 rfl ?_
        refine Go.iload_n 2 12 rfl dJ7_fill_53178_11 rfl ?_
        refine Go.iload_n 1 13 rfl dJ7_fill_53178_12 rfl ?_
        obtain ⟨g13, hf⟩ := f_grd hf
        obtain ⟨S13, eS13, hf⟩ := f_nm hf
        refine Go.iast 14 rfl dJ7_fill_53178_13 (isT_lt ha0) (isT_sh ha0) g13 (Go.stt S13 eS13 ?_)
        refine Go.inc 2 17 (1 : Int32) [(2, .int (l5_2 + (1 : Int32))), (0, .ref a0), (1, .int a1), (3, .int v4)] rfl dJ7_fill_53178_14 rfl ci_1 (by decide) rfl ?_
        refine Go.goto 5 dJ7_fill_53178_17 rfl ?_
        exact Go.sub [1, 2, 0, 3] [(0, .ref a0), (1, .int a1), (2, .int (l5_2 + (1 : Int32))), (3, .int v4)] rfl (ih (l5_2 + (1 : Int32)) S13 hf)
  exact Go.sub [2, 3, 1, 0] [(0, .ref a0), (1, .int a1), (2, .int (0 : Int32)), (3, .int v4)] rfl (L5 n (0 : Int32) S hf)
theorem dJ6_bitCount_0f7a4_0 : decode cJ6_bitCount_0f7a4 0 = .ok (.iload_n 0, 1) := by decide +kernel
theorem dJ6_bitCount_0f7a4_1 : decode cJ6_bitCount_0f7a4 1 = .ok (.iload_n 0, 1) := by decide +kernel
theorem dJ6_bitCount_0f7a4_2 : decode cJ6_bitCount_0f7a4 2 = .ok (.iconst 1, 1) := by decide +kernel
theorem dJ6_bitCount_0f7a4_3 : decode cJ6_bitCount_0f7a4 3 = .ok (.iushr, 1) := by decide +kernel
theorem dJ6_bitCount_0f7a4_4 : decode cJ6_bitCount_0f7a4 4 = .ok (.ldc_w 265, 3) := by decide +kernel
theorem dJ6_bitCount_0f7a4_7 : decode cJ6_bitCount_0f7a4 7 = .ok (.iand, 1) := by decide +kernel
theorem dJ6_bitCount_0f7a4_8 : decode cJ6_bitCount_0f7a4 8 = .ok (.isub, 1) := by decide +kernel
theorem dJ6_bitCount_0f7a4_9 : decode cJ6_bitCount_0f7a4 9 = .ok (.istore_n 0, 1) := by decide +kernel
theorem dJ6_bitCount_0f7a4_10 : decode cJ6_bitCount_0f7a4 10 = .ok (.iload_n 0, 1) := by decide +kernel
theorem dJ6_bitCount_0f7a4_11 : decode cJ6_bitCount_0f7a4 11 = .ok (.ldc_w 266, 3) := by decide +kernel
theorem dJ6_bitCount_0f7a4_14 : decode cJ6_bitCount_0f7a4 14 = .ok (.iand, 1) := by decide +kernel
theorem dJ6_bitCount_0f7a4_15 : decode cJ6_bitCount_0f7a4 15 = .ok (.iload_n 0, 1) := by decide +kernel
theorem dJ6_bitCount_0f7a4_16 : decode cJ6_bitCount_0f7a4 16 = .ok (.iconst 2, 1) := by decide +kernel
theorem dJ6_bitCount_0f7a4_17 : decode cJ6_bitCount_0f7a4 17 = .ok (.iushr, 1) := by decide +kernel
theorem dJ6_bitCount_0f7a4_18 : decode cJ6_bitCount_0f7a4 18 = .ok (.ldc_w 266, 3) := by decide +kernel
theorem dJ6_bitCount_0f7a4_21 : decode cJ6_bitCount_0f7a4 21 = .ok (.iand, 1) := by decide +kernel
theorem dJ6_bitCount_0f7a4_22 : decode cJ6_bitCount_0f7a4 22 = .ok (.iadd, 1) := by decide +kernel
theorem dJ6_bitCount_0f7a4_23 : decode cJ6_bitCount_0f7a4 23 = .ok (.istore_n 0, 1) := by decide +kernel
theorem dJ6_bitCount_0f7a4_24 : decode cJ6_bitCount_0f7a4 24 = .ok (.iload_n 0, 1) := by decide +kernel
theorem dJ6_bitCount_0f7a4_25 : decode cJ6_bitCount_0f7a4 25 = .ok (.iload_n 0, 1) := by decide +kernel
theorem dJ6_bitCount_0f7a4_26 : decode cJ6_bitCount_0f7a4 26 = .ok (.iconst 4, 1) := by decide +kernel
theorem dJ6_bitCount_0f7a4_27 : decode cJ6_bitCount_0f7a4 27 = .ok (.iushr, 1) := by decide +kernel
theorem dJ6_bitCount_0f7a4_28 : decode cJ6_bitCount_0f7a4 28 = .ok (.iadd, 1) := by decide +kernel
theorem dJ6_bitCount_0f7a4_29 : decode cJ6_bitCount_0f7a4 29 = .ok (.ldc_w 267, 3) := by decide +kernel
theorem dJ6_bitCount_0f7a4_32 : decode cJ6_bitCount_0f7a4 32 = .ok (.iand, 1) := by decide +kernel
theorem dJ6_bitCount_0f7a4_33 : decode cJ6_bitCount_0f7a4 33 = .ok (.istore_n 0, 1) := by decide +kernel
theorem dJ6_bitCount_0f7a4_34 : decode cJ6_bitCount_0f7a4 34 = .ok (.iload_n 0, 1) := by decide +kernel
theorem dJ6_bitCount_0f7a4_35 : decode cJ6_bitCount_0f7a4 35 = .ok (.iload_n 0, 1) := by decide +kernel
theorem dJ6_bitCount_0f7a4_36 : decode cJ6_bitCount_0f7a4 36 = .ok (.bipush 8, 2) := by decide +kernel
theorem dJ6_bitCount_0f7a4_38 : decode cJ6_bitCount_0f7a4 38 = .ok (.iushr, 1) := by decide +kernel
theorem dJ6_bitCount_0f7a4_39 : decode cJ6_bitCount_0f7a4 39 = .ok (.iadd, 1) := by decide +kernel
theorem dJ6_bitCount_0f7a4_40 : decode cJ6_bitCount_0f7a4 40 = .ok (.istore_n 0, 1) := by decide +kernel
theorem dJ6_bitCount_0f7a4_41 : decode cJ6_bitCount_0f7a4 41 = .ok (.iload_n 0, 1) := by decide +kernel
theorem dJ6_bitCount_0f7a4_42 : decode cJ6_bitCount_0f7a4 42 = .ok (.iload_n 0, 1) := by decide +kernel
theorem dJ6_bitCount_0f7a4_43 : decode cJ6_bitCount_0f7a4 43 = .ok (.bipush 16, 2) := by decide +kernel
theorem dJ6_bitCount_0f7a4_45 : decode cJ6_bitCount_0f7a4 45 = .ok (.iushr, 1) := by decide +kernel
theorem dJ6_bitCount_0f7a4_46 : decode cJ6_bitCount_0f7a4 46 = .ok (.iadd, 1) := by decide +kernel
theorem dJ6_bitCount_0f7a4_47 : decode cJ6_bitCount_0f7a4 47 = .ok (.istore_n 0, 1) := by decide +kernel
theorem dJ6_bitCount_0f7a4_48 : decode cJ6_bitCount_0f7a4 48 = .ok (.iload_n 0, 1) := by decide +kernel
theorem dJ6_bitCount_0f7a4_49 : decode cJ6_bitCount_0f7a4 49 = .ok (.bipush 63, 2) := by decide +kernel
theorem dJ6_bitCount_0f7a4_51 : decode cJ6_bitCount_0f7a4 51 = .ok (.iand, 1) := by decide +kernel
theorem dJ6_bitCount_0f7a4_52 : decode cJ6_bitCount_0f7a4 52 = .ok (.ireturn, 1) := by decide +kernel
def F_J6_bitCount_0f7a4 (n : Nat) (S : aSt) (a0 : Int32) : Option Int32 :=
nm (a0 - ((a0.toUInt32 >>> ((1 : Int32).toUInt32 &&& Int32.toUInt32 31)).toInt32 &&& (1431655765 : Int32))) fun v9 =>
nm ((v9 &&& (858993459 : Int32)) + ((v9.toUInt32 >>> ((2 : Int32).toUInt32 &&& Int32.toUInt32 31)).toInt32 &&& (858993459 : Int32))) fun v23 =>
nm ((v23 + (v23.toUInt32 >>> ((4 : Int32).toUInt32 &&& Int32.toUInt32 31)).toInt32) &&& (252645135 : Int32)) fun v33 =>
nm (v33 + (v33.toUInt32 >>> ((8 : Int32).toUInt32 &&& Int32.toUInt32 31)).toInt32) fun v40 =>
nm (v40 + (v40.toUInt32 >>> ((16 : Int32).toUInt32 &&& Int32.toUInt32 31)).toInt32) fun v47 =>
some (v47 &&& (63 : Int32))
set_option maxHeartbeats 4000000 in
set_option maxRecDepth 100000 in
theorem C_J6_bitCount_0f7a4 (G : aG) (l : Launch) (n : Nat) (S : aSt) (a0 : Int32) (r : Int32)  (hf : F_J6_bitCount_0f7a4 n S a0 = some r) : Ctr G l yJ6_bitCount_0f7a4 mJ6_bitCount_0f7a4 (rmM 1) 97 97 S [.int a0] (some (.int r)) S := by
  refine Ctr.of (by decide) rfl rfl (Nat.le_of_ble_eq_true rfl) [(0, .int a0)] rfl ?_
  unfold F_J6_bitCount_0f7a4 at hf
  refine Go.iload_n 0 1 rfl dJ6_bitCount_0f7a4_0 rfl ?_
  refine Go.iload_n 0 2 rfl dJ6_bitCount_0f7a4_1 rfl ?_
  refine Go.iconst (1 : Int32) 3 rfl dJ6_bitCount_0f7a4_2 ci_1 ?_
  refine Go.iushr 4 rfl dJ6_bitCount_0f7a4_3 ?_
  refine Go.ldcw (1431655765 : Int32) 7 rfl dJ6_bitCount_0f7a4_4 (am_mem 569 (by decide +kernel) rfl) ?_
  refine Go.iand 8 rfl dJ6_bitCount_0f7a4_7 ?_
  refine Go.isub 9 rfl dJ6_bitCount_0f7a4_8 ?_
  obtain ⟨v9, ev9, hf⟩ := f_nm hf
  refine Go.topi v9 ev9 ?_
  refine Go.istore_n 10 [(0, .int v9)] rfl dJ6_bitCount_0f7a4_9 (by decide) rfl ?_
  refine Go.iload_n 0 11 rfl dJ6_bitCount_0f7a4_10 rfl ?_
  refine Go.ldcw (858993459 : Int32) 14 rfl dJ6_bitCount_0f7a4_11 (am_mem 570 (by decide +kernel) rfl) ?_
  refine Go.iand 15 rfl dJ6_bitCount_0f7a4_14 ?_
  refine Go.iload_n 0 16 rfl dJ6_bitCount_0f7a4_15 rfl ?_
  refine Go.iconst (2 : Int32) 17 rfl dJ6_bitCount_0f7a4_16 ci_2 ?_
  refine Go.iushr 18 rfl dJ6_bitCount_0f7a4_17 ?_
  refine Go.ldcw (858993459 : Int32) 21 rfl dJ6_bitCount_0f7a4_18 (am_mem 570 (by decide +kernel) rfl) ?_
  refine Go.iand 22 rfl dJ6_bitCount_0f7a4_21 ?_
  refine Go.iadd 23 rfl dJ6_bitCount_0f7a4_22 ?_
  obtain ⟨v23, ev23, hf⟩ := f_nm hf
  refine Go.topi v23 ev23 ?_
  refine Go.istore_n 24 [(0, .int v23)] rfl dJ6_bitCount_0f7a4_23 (by decide) rfl ?_
  refine Go.iload_n 0 25 rfl dJ6_bitCount_0f7a4_24 rfl ?_
  refine Go.iload_n 0 26 rfl dJ6_bitCount_0f7a4_25 rfl ?_
  refine Go.iconst (4 : Int32) 27 rfl dJ6_bitCount_0f7a4_26 ci_4 ?_
  refine Go.iushr 28 rfl dJ6_bitCount_0f7a4_27 ?_
  refine Go.iadd 29 rfl dJ6_bitCount_0f7a4_28 ?_
  refine Go.ldcw (252645135 : Int32) 32 rfl dJ6_bitCount_0f7a4_29 (am_mem 571 (by decide +kernel) rfl) ?_
  refine Go.iand 33 rfl dJ6_bitCount_0f7a4_32 ?_
  obtain ⟨v33, ev33, hf⟩ := f_nm hf
  refine Go.topi v33 ev33 ?_
  refine Go.istore_n 34 [(0, .int v33)] rfl dJ6_bitCount_0f7a4_33 (by decide) rfl ?_
  refine Go.iload_n 0 35 rfl dJ6_bitCount_0f7a4_34 rfl ?_
  refine Go.iload_n 0 36 rfl dJ6_bitCount_0f7a4_35 rfl ?_
  refine Go.bipush (8 : Int32) 38 rfl dJ6_bitCount_0f7a4_36 cb_8 ?_
  refine Go.iushr 39 rfl dJ6_bitCount_0f7a4_38 ?_
  refine Go.iadd 40 rfl dJ6_bitCount_0f7a4_39 ?_
  obtain ⟨v40, ev40, hf⟩ := f_nm hf
  refine Go.topi v40 ev40 ?_
  refine Go.istore_n 41 [(0, .int v40)] rfl dJ6_bitCount_0f7a4_40 (by decide) rfl ?_
  refine Go.iload_n 0 42 rfl dJ6_bitCount_0f7a4_41 rfl ?_
  refine Go.iload_n 0 43 rfl dJ6_bitCount_0f7a4_42 rfl ?_
  refine Go.bipush (16 : Int32) 45 rfl dJ6_bitCount_0f7a4_43 cb_16 ?_
  refine Go.iushr 46 rfl dJ6_bitCount_0f7a4_45 ?_
  refine Go.iadd 47 rfl dJ6_bitCount_0f7a4_46 ?_
  obtain ⟨v47, ev47, hf⟩ := f_nm hf
  refine Go.topi v47 ev47 ?_
  refine Go.istore_n 48 [(0, .int v47)] rfl dJ6_bitCount_0f7a4_47 (by decide) rfl ?_
  refine Go.iload_n 0 49 rfl dJ6_bitCount_0f7a4_48 rfl ?_
  refine Go.bipush (63 : Int32) 51 rfl dJ6_bitCount_0f7a4_49 cb_63 ?_
  refine Go.iand 52 rfl dJ6_bitCount_0f7a4_51 ?_
  exact Go.ir rfl dJ6_bitCount_0f7a4_52 hf
