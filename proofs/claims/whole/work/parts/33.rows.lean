/-! Rows and texts: at, lay, tear. -/
theorem one_ne0 : ((1 : Int32) = 0) = False := by simp
theorem xrow {S : aSt} {h d r : Nat} (H : RfX S h d) (hr : r < 6) : S.2.2 1 r = some (41 + 2 * r) ∧ S.2.2 (41 + 2 * r) 0 = some (41 + 2 * r + 1) := by
  refine ⟨?_, ?_⟩
  · rw [H.2.2.1]; simp [HRs, hr]
  · rw [H.2.2.2.2.2.1 r (by omega)]; simp [HRn]
theorem xtxt {S : aSt} {h d r : Nat} (H : RfX S h d) (hr : r < 4) : S.2.2 2 r = some (53 + 2 * r) ∧ S.2.2 (53 + 2 * r) 0 = some (53 + 2 * r + 1) := by
  refine ⟨?_, ?_⟩
  · rw [H.2.2.2.1]; simp [HRs, hr]
  · have := H.2.2.2.2.2.1 (r + 6) (by omega)
    rw [show 41 + 2 * (r + 6) = 53 + 2 * r by omega] at this
    rw [this]; simp [HRn]
theorem X4_isThere_eq (n : Nat) (S : aSt) (k : Nat) : F_X4_isThere n S k = some (if S.1 k 1 = -1 then 0 else 1) := by
  unfold F_X4_isThere
  by_cases h : S.1 k 1 = -1 <;> simp [h]
theorem X4_reaches_eq (n : Nat) {S : aSt} {k m : Nat} (hm : m < 2 ^ 31) (e : S.1 k 1 = nI m) (i : Int32) : F_X4_reaches n S k i = some (if inb i m = true then 1 else 0) := by
  unfold F_X4_reaches
  rw [e]
  exact if_in hm
theorem nI_nm1 {m : Nat} (h : m < 2 ^ 31) : ¬ nI m = -1 := by
  intro e
  have h1 := congrArg Int32.toInt e
  rw [nI_toInt h, show (-1 : Int32).toInt = -1 from rfl] at h1
  omega
theorem nI_ge0 {m : Nat} (h : m < 2 ^ 31) : (0 : Int32) ≤ nI m := nI_pos' h
theorem m1_lt : ¬ (0 : Int32) ≤ -1 := by decide
theorem xf1 (n : Nat) {S : aSt} {h d : Nat} (H : RfX S h d) : F_X6_found n S 0 (1 : Int32) = some (-3, xFnd S 1) := X6_found_eq n H (by decide)
theorem mf1 (n : Nat) {S : aSt} (H : RfM S) : F_X7_found n S 82 (1 : Int32) = some (-3, mFnd S 1) := X7_found_eq n H (by decide)
theorem xf2 (n : Nat) {S : aSt} {h d : Nat} (H : RfX S h d) : F_X6_found n S 0 (2 : Int32) = some (-3, xFnd S 2) := X6_found_eq n H (by decide)
theorem mf2 (n : Nat) {S : aSt} (H : RfM S) : F_X7_found n S 82 (2 : Int32) = some (-3, mFnd S 2) := X7_found_eq n H (by decide)
theorem xf3 (n : Nat) {S : aSt} {h d : Nat} (H : RfX S h d) : F_X6_found n S 0 (3 : Int32) = some (-3, xFnd S 3) := X6_found_eq n H (by decide)
theorem mf3 (n : Nat) {S : aSt} (H : RfM S) : F_X7_found n S 82 (3 : Int32) = some (-3, mFnd S 3) := X7_found_eq n H (by decide)
theorem xf4 (n : Nat) {S : aSt} {h d : Nat} (H : RfX S h d) : F_X6_found n S 0 (4 : Int32) = some (-3, xFnd S 4) := X6_found_eq n H (by decide)
theorem mf4 (n : Nat) {S : aSt} (H : RfM S) : F_X7_found n S 82 (4 : Int32) = some (-3, mFnd S 4) := X7_found_eq n H (by decide)
theorem xf5 (n : Nat) {S : aSt} {h d : Nat} (H : RfX S h d) : F_X6_found n S 0 (5 : Int32) = some (-3, xFnd S 5) := X6_found_eq n H (by decide)
theorem mf5 (n : Nat) {S : aSt} (H : RfM S) : F_X7_found n S 82 (5 : Int32) = some (-3, mFnd S 5) := X7_found_eq n H (by decide)
set_option maxRecDepth 4000 in
theorem op_at (n : Nat) {S : aSt} (H : OK S) (r i : Int32) : Both S (F_X6_at n S 0 r i) (fun S1 => F_X7_at n S1 82 r i) := by
  by_cases hr : inb r 6 = true
  · obtain ⟨r, hr', rfl⟩ := inb_ex hr (by decide)
    have H0 := H
    obtain ⟨h, d, hX, hM, hA, hR, hT, -⟩ := H
    have hM' : S.2.2 82 = HRm := hM
    obtain ⟨x1, x2⟩ := xrow hX hr'
    obtain ⟨t1, t2, t3⟩ := rowT hr'
    have hc : (nI r).toNatClampNeg = r := nI_clamp (by omega)
    obtain ⟨e1, e2⟩ := hR r hr'
    rcases e2 with e2 | ⟨m, hm, e2, e3⟩
    · refine Both.fnd H0 1 (by decide) ?_ ?_
      · unfold F_X6_at
        simp only [nmE, jnE, bn2S, bndS, grdT, stI_22, stL_22, stRow_22, HR0, rfdS T_1, rfdS T_2, rfdS T_3, rfdS T_4, rfdS T_5, rfdS T_9, SZ_1, SZ_2, SZ_3, SZ_4, X6_isRow_eq, hr, hX.2.1, hc, x1, rfdS t1, X4_isThere_eq, e1, e2, reduceIte, Bool.false_eq_true, one_ne0, xf1 n hX]
      · have hM1 : (xFnd S 1).2.2 82 = HRm := hM
        unfold F_X7_at
        simp only [nmE, jnE, bn2S, bndS, grdT, stI_22, stL_22, stRow_22, HRm, rfdS T_83, rfdS T_84, rfdS T_85, rfdS T_86, rfdS T_87, rfdS T_88, rfdS T_89, rfdS T_90, rfdS T_91, rfdS T_92, rfdS T_93, rfdS T_94, rfdS T_95, rfdS T_96, SZ_83, SZ_84, SZ_85, SZ_86, SZ_87, SZ_88, SZ_89, SZ_90, SZ_91, SZ_92, SZ_93, SZ_94, SZ_95, SZ_96, X7_isRow_eq, hr, hM1, hc, xFnd_m (show 5 ≤ 83 by decide), e2, reduceIte, Bool.false_eq_true, one_ne0, m1_lt, mf1 n (RfM_xFnd hM)]
    · have e1' := e1.trans e2
      by_cases hi : inb i m = true
      · obtain ⟨i, hi', rfl⟩ := inb_ex hi (by omega)
        have hci : (nI i).toNatClampNeg = i := nI_clamp (by omega)
        refine Both.tell H0 (S.1 84 (40 * r + i)) 1 ?_ ?_
        · unfold F_X6_at
          simp only [nmE, jnE, bn2S, bndS, grdT, stI_22, stL_22, stRow_22, HR0, rfdS T_1, rfdS T_2, rfdS T_3, rfdS T_4, rfdS T_5, rfdS T_9, SZ_1, SZ_2, SZ_3, SZ_4, X6_isRow_eq, hr, hX.2.1, hc, hci, x1, x2, rfdS t1, rfdS t2, t3, X4_isThere_eq, X4_reaches_eq n (show m < 2 ^ 31 by omega) e1', e1', hi, nI_nm1 (show m < 2 ^ 31 by omega), reduceIte, Bool.false_eq_true, one_ne0, inb_nI (show i < 40 by omega) (by decide), e3 i hi', xTell]
        · have hM1 : (xTell S (S.1 84 (40 * r + i))).2.2 82 = HRm := hM
          unfold F_X7_at
          simp only [nmE, jnE, bn2S, bndS, grdT, stI_22, stL_22, stRow_22, HRm, rfdS T_83, rfdS T_84, rfdS T_85, rfdS T_86, rfdS T_87, rfdS T_88, rfdS T_89, rfdS T_90, rfdS T_91, rfdS T_92, rfdS T_93, rfdS T_94, rfdS T_95, rfdS T_96, SZ_83, SZ_84, SZ_85, SZ_86, SZ_87, SZ_88, SZ_89, SZ_90, SZ_91, SZ_92, SZ_93, SZ_94, SZ_95, SZ_96, X7_isRow_eq, hr, hM1, hc, xTell_m (show 1 ≤ 83 by decide), xTell_m (show 1 ≤ 84 by decide), e2, reduceIte, Bool.false_eq_true, one_ne0, nI_ge0 (show m < 2 ^ 31 by omega), X7_in_sz n _ _ (show m < 2 ^ 31 by omega), hi, li_40, pk_mul, nI_add, inb_nI (show 40 * r + i < 240 by omega) (by decide), nI_clamp (show 40 * r + i < 2 ^ 31 by omega), X7_tell_eq]
      · refine Both.fnd H0 2 (by decide) ?_ ?_
        · unfold F_X6_at
          simp only [nmE, jnE, bn2S, bndS, grdT, stI_22, stL_22, stRow_22, HR0, rfdS T_1, rfdS T_2, rfdS T_3, rfdS T_4, rfdS T_5, rfdS T_9, SZ_1, SZ_2, SZ_3, SZ_4, X6_isRow_eq, hr, hX.2.1, hc, x1, x2, rfdS t1, rfdS t2, t3, X4_isThere_eq, X4_reaches_eq n (show m < 2 ^ 31 by omega) e1', e1', hi, nI_nm1 (show m < 2 ^ 31 by omega), reduceIte, Bool.false_eq_true, one_ne0, xf2 n hX]
        · have hM1 : (xFnd S 2).2.2 82 = HRm := hM
          unfold F_X7_at
          simp only [nmE, jnE, bn2S, bndS, grdT, stI_22, stL_22, stRow_22, HRm, rfdS T_83, rfdS T_84, rfdS T_85, rfdS T_86, rfdS T_87, rfdS T_88, rfdS T_89, rfdS T_90, rfdS T_91, rfdS T_92, rfdS T_93, rfdS T_94, rfdS T_95, rfdS T_96, SZ_83, SZ_84, SZ_85, SZ_86, SZ_87, SZ_88, SZ_89, SZ_90, SZ_91, SZ_92, SZ_93, SZ_94, SZ_95, SZ_96, X7_isRow_eq, hr, hM1, hc, xFnd_m (show 5 ≤ 83 by decide), e2, reduceIte, Bool.false_eq_true, one_ne0, nI_ge0 (show m < 2 ^ 31 by omega), X7_in_sz n _ _ (show m < 2 ^ 31 by omega), hi, mf2 n (RfM_xFnd hM)]
  · refine Both.same H (-1) ?_ ?_
    · unfold F_X6_at
      simp only [nmE, jnE, bn2S, bndS, grdT, stI_22, stL_22, stRow_22, HR0, rfdS T_1, rfdS T_2, rfdS T_3, rfdS T_4, rfdS T_5, rfdS T_9, SZ_1, SZ_2, SZ_3, SZ_4, X6_isRow_eq, hr, reduceIte, Bool.false_eq_true]
    · unfold F_X7_at
      simp only [nmE, jnE, bn2S, bndS, grdT, stI_22, stL_22, stRow_22, HRm, rfdS T_83, rfdS T_84, rfdS T_85, rfdS T_86, rfdS T_87, rfdS T_88, rfdS T_89, rfdS T_90, rfdS T_91, rfdS T_92, rfdS T_93, rfdS T_94, rfdS T_95, rfdS T_96, SZ_83, SZ_84, SZ_85, SZ_86, SZ_87, SZ_88, SZ_89, SZ_90, SZ_91, SZ_92, SZ_93, SZ_94, SZ_95, SZ_96, X7_isRow_eq, hr, reduceIte, Bool.false_eq_true]
