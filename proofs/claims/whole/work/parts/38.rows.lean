/-! Rows: copy. -/
theorem i32_of {x : Int32} (h : 0 ≤ x.toInt) : ∃ k : Nat, k < 2 ^ 31 ∧ x = nI k ∧ x.toInt = k := by
  obtain ⟨k, hk, e⟩ := nI_of (x := x) (by rw [lt0]; omega)
  exact ⟨k, hk, e, by rw [e, nI_toInt hk]⟩
set_option maxRecDepth 4000 in
theorem op_copy (n : Nat) (hn : 100 < n) {S : aSt} (H : OK S) (r i t j c : Int32) : Both S (F_X6_copy n S 0 r i t j c) (fun S1 => F_X7_copy n S1 82 r i t j c) := by
  by_cases hr : inb r 6 = true
  rotate_left
  · refine Both.same H (-1) ?_ ?_
    · unfold F_X6_copy
      simp only [nmE, jnE, bn2S, bndS, grdT, stI_22, stL_22, stRow_22, HR0, rfdS T_1, rfdS T_2, rfdS T_3, rfdS T_4, rfdS T_5, rfdS T_9, SZ_1, SZ_2, SZ_3, SZ_4, reduceIte, Bool.false_eq_true, one_ne0, X6_isRow_eq, hr]
    · unfold F_X7_copy
      simp only [nmE, jnE, bn2S, bndS, grdT, stI_22, stL_22, stRow_22, HRm, rfdS T_83, rfdS T_84, rfdS T_85, rfdS T_86, rfdS T_87, rfdS T_88, rfdS T_89, rfdS T_90, rfdS T_91, rfdS T_92, rfdS T_93, rfdS T_94, rfdS T_95, rfdS T_96, SZ_83, SZ_84, SZ_85, SZ_86, SZ_87, SZ_88, SZ_89, SZ_90, SZ_91, SZ_92, SZ_93, SZ_94, SZ_95, SZ_96, reduceIte, Bool.false_eq_true, one_ne0, X7_isRow_eq, hr]
  by_cases ht : inb t 6 = true
  rotate_left
  · refine Both.same H (-1) ?_ ?_
    · unfold F_X6_copy
      simp only [nmE, jnE, bn2S, bndS, grdT, stI_22, stL_22, stRow_22, HR0, rfdS T_1, rfdS T_2, rfdS T_3, rfdS T_4, rfdS T_5, rfdS T_9, SZ_1, SZ_2, SZ_3, SZ_4, reduceIte, Bool.false_eq_true, one_ne0, X6_isRow_eq, hr, ht]
    · unfold F_X7_copy
      simp only [nmE, jnE, bn2S, bndS, grdT, stI_22, stL_22, stRow_22, HRm, rfdS T_83, rfdS T_84, rfdS T_85, rfdS T_86, rfdS T_87, rfdS T_88, rfdS T_89, rfdS T_90, rfdS T_91, rfdS T_92, rfdS T_93, rfdS T_94, rfdS T_95, rfdS T_96, SZ_83, SZ_84, SZ_85, SZ_86, SZ_87, SZ_88, SZ_89, SZ_90, SZ_91, SZ_92, SZ_93, SZ_94, SZ_95, SZ_96, reduceIte, Bool.false_eq_true, one_ne0, X7_isRow_eq, hr, ht]
  obtain ⟨r, hr', rfl⟩ := inb_ex hr (by decide)
  obtain ⟨t, ht', rfl⟩ := inb_ex ht (by decide)
  have H0 := H
  obtain ⟨h, d, hX, hM, hA, hR, hT, -⟩ := H
  obtain ⟨x1, x2⟩ := xrow hX hr'
  obtain ⟨t1, t2, t3⟩ := rowT hr'
  obtain ⟨y1, y2⟩ := xrow hX ht'
  obtain ⟨u1, u2, u3⟩ := rowT ht'
  have hc : (nI r).toNatClampNeg = r := nI_clamp (by omega)
  have hct : (nI t).toNatClampNeg = t := nI_clamp (by omega)
  by_cases h0 : (0 : Int32) ≤ c
  rotate_left
  · refine Both.fnd H0 5 (by decide) ?_ ?_
    · unfold F_X6_copy
      simp only [nmE, jnE, bn2S, bndS, grdT, stI_22, stL_22, stRow_22, HR0, rfdS T_1, rfdS T_2, rfdS T_3, rfdS T_4, rfdS T_5, rfdS T_9, SZ_1, SZ_2, SZ_3, SZ_4, reduceIte, Bool.false_eq_true, one_ne0, X6_isRow_eq, hr, hX.2.1, hc, x1, x2, rfdS t1, rfdS t2, t3, X4_isThere_eq, ht, h0, xf5 n hX]
    · have hM1 : (xFnd S 5).2.2 82 = HRm := hM
      unfold F_X7_copy
      simp only [nmE, jnE, bn2S, bndS, grdT, stI_22, stL_22, stRow_22, HRm, rfdS T_83, rfdS T_84, rfdS T_85, rfdS T_86, rfdS T_87, rfdS T_88, rfdS T_89, rfdS T_90, rfdS T_91, rfdS T_92, rfdS T_93, rfdS T_94, rfdS T_95, rfdS T_96, SZ_83, SZ_84, SZ_85, SZ_86, SZ_87, SZ_88, SZ_89, SZ_90, SZ_91, SZ_92, SZ_93, SZ_94, SZ_95, SZ_96, reduceIte, Bool.false_eq_true, one_ne0, X7_isRow_eq, hr, hM1, hc, ht, h0, mf5 n (RfM_xFnd hM)]
  obtain ⟨e1, e2⟩ := hR r hr'
  obtain ⟨g1, g2⟩ := hR t ht'
  rcases e2 with e2 | ⟨m, hm, e2, e3⟩
  · refine Both.fnd H0 1 (by decide) ?_ ?_
    · unfold F_X6_copy
      simp only [nmE, jnE, bn2S, bndS, grdT, stI_22, stL_22, stRow_22, HR0, rfdS T_1, rfdS T_2, rfdS T_3, rfdS T_4, rfdS T_5, rfdS T_9, SZ_1, SZ_2, SZ_3, SZ_4, reduceIte, Bool.false_eq_true, one_ne0, X6_isRow_eq, hr, hX.2.1, hc, x1, x2, rfdS t1, rfdS t2, t3, X4_isThere_eq, ht, h0, e1, e2, xf1 n hX]
    · have hM1 : (xFnd S 1).2.2 82 = HRm := hM
      unfold F_X7_copy
      simp only [nmE, jnE, bn2S, bndS, grdT, stI_22, stL_22, stRow_22, HRm, rfdS T_83, rfdS T_84, rfdS T_85, rfdS T_86, rfdS T_87, rfdS T_88, rfdS T_89, rfdS T_90, rfdS T_91, rfdS T_92, rfdS T_93, rfdS T_94, rfdS T_95, rfdS T_96, SZ_83, SZ_84, SZ_85, SZ_86, SZ_87, SZ_88, SZ_89, SZ_90, SZ_91, SZ_92, SZ_93, SZ_94, SZ_95, SZ_96, reduceIte, Bool.false_eq_true, one_ne0, X7_isRow_eq, hr, hM1, hc, ht, h0, xFnd_m (show 5 ≤ 83 by decide), e2, show (-1 : Int32) < 0 by decide, mf1 n (RfM_xFnd hM)]
  have e1' := e1.trans e2
  rcases g2 with g2 | ⟨m', hm', g2, g3⟩
  · refine Both.fnd H0 1 (by decide) ?_ ?_
    · unfold F_X6_copy
      simp only [nmE, jnE, bn2S, bndS, grdT, stI_22, stL_22, stRow_22, HR0, rfdS T_1, rfdS T_2, rfdS T_3, rfdS T_4, rfdS T_5, rfdS T_9, SZ_1, SZ_2, SZ_3, SZ_4, reduceIte, Bool.false_eq_true, one_ne0, X6_isRow_eq, hr, hX.2.1, hc, x1, x2, rfdS t1, rfdS t2, t3, X4_isThere_eq, ht, h0, e1', hct, y1, rfdS u1, g1, g2, nI_nm1 (show m < 2 ^ 31 by omega), xf1 n hX]
    · have hM1 : (xFnd S 1).2.2 82 = HRm := hM
      unfold F_X7_copy
      simp only [nmE, jnE, bn2S, bndS, grdT, stI_22, stL_22, stRow_22, HRm, rfdS T_83, rfdS T_84, rfdS T_85, rfdS T_86, rfdS T_87, rfdS T_88, rfdS T_89, rfdS T_90, rfdS T_91, rfdS T_92, rfdS T_93, rfdS T_94, rfdS T_95, rfdS T_96, SZ_83, SZ_84, SZ_85, SZ_86, SZ_87, SZ_88, SZ_89, SZ_90, SZ_91, SZ_92, SZ_93, SZ_94, SZ_95, SZ_96, reduceIte, Bool.false_eq_true, one_ne0, X7_isRow_eq, hr, hM1, hc, ht, h0, xFnd_m (show 5 ≤ 83 by decide), e2, hct, g2, nI_pos (show m < 2 ^ 31 by omega), m1_lt, mf1 n (RfM_xFnd hM)]
  have g1' := g1.trans g2
  have c0 := (ge0 c).mp h0
  by_cases hh : (0 ≤ i.toInt ∧ 0 ≤ c.toInt ∧ i.toInt + c.toInt ≤ m) ∧ (0 ≤ j.toInt ∧ 0 ≤ c.toInt ∧ j.toInt + c.toInt ≤ m')
  · obtain ⟨hh1, hh2⟩ := hh
    obtain ⟨i, hi, rfl, ei⟩ := i32_of hh1.1
    obtain ⟨j, hj, rfl, ej⟩ := i32_of hh2.1
    obtain ⟨c, hcc, rfl, ec⟩ := i32_of c0
    have hci : (nI i).toNatClampNeg = i := nI_clamp hi
    have hcj : (nI j).toNatClampNeg = j := nI_clamp hj
    have hccc : (nI c).toNatClampNeg = c := nI_clamp hcc
    have b1 : i + c ≤ m := by omega
    have b2 : j + c ≤ m' := by omega
    have hcp : cpok (nI i) (nI j) (nI c) 40 40 = true := by
      simp only [cpok, hci, hcj, hccc, nI_pos hi, nI_pos hj, nI_pos hcc, decide_false, Bool.not_false, Bool.true_and, Bool.and_eq_true, decide_eq_true_eq]
      omega
    refine ⟨1, stRow S (41 + 2 * t + 1) (va_cpy (S.1 (41 + 2 * r + 1)) (S.1 (41 + 2 * t + 1)) i j c), stRow (stRow S (41 + 2 * t + 1) (va_cpy (S.1 (41 + 2 * r + 1)) (S.1 (41 + 2 * t + 1)) i j c)) 84 (va_cpy (S.1 84) (S.1 84) (40 * r + i) (40 * t + j) c), ?_, ?_, ?_⟩
    · unfold F_X6_copy
      simp only [nmE, jnE, bn2S, bndS, grdT, stI_22, stL_22, stRow_22, HR0, rfdS T_1, rfdS T_2, rfdS T_3, rfdS T_4, rfdS T_5, rfdS T_9, SZ_1, SZ_2, SZ_3, SZ_4, reduceIte, Bool.false_eq_true, one_ne0, X6_isRow_eq, hr, hX.2.1, hc, x1, x2, rfdS t1, rfdS t2, t3, X4_isThere_eq, ht, h0, e1', hct, y1, y2, rfdS u1, rfdS u2, u3, g1', nI_nm1 (show m < 2 ^ 31 by omega), nI_nm1 (show m' < 2 ^ 31 by omega), X4_holds_eq n (show m < 2 ^ 31 by omega) e1', X4_holds_eq n (show m' < 2 ^ 31 by omega) g1', hh1, hh2, and_self, hcp, hci, hcj, hccc]
    · generalize hS1 : stRow S (41 + 2 * t + 1) (va_cpy (S.1 (41 + 2 * r + 1)) (S.1 (41 + 2 * t + 1)) i j c) = S1
      have hM1 : S1.2.2 82 = HRm := by rw [← hS1]; exact hM
      have f1 : S1.1 83 = S.1 83 := by rw [← hS1, stRow_ne (by omega)]
      have f2 : S1.1 84 = S.1 84 := by rw [← hS1, stRow_ne (by omega)]
      unfold F_X7_copy
      have q1 := (cmp64 (nI i) (nI c) (show m < 2 ^ 31 by omega)).mpr (by omega)
      have q2 := (cmp64 (nI j) (nI c) (show m' < 2 ^ 31 by omega)).mpr (by omega)
      simp only [nmE, jnE, bn2S, bndS, grdT, stI_22, stL_22, stRow_22, HRm, rfdS T_83, rfdS T_84, rfdS T_85, rfdS T_86, rfdS T_87, rfdS T_88, rfdS T_89, rfdS T_90, rfdS T_91, rfdS T_92, rfdS T_93, rfdS T_94, rfdS T_95, rfdS T_96, SZ_83, SZ_84, SZ_85, SZ_86, SZ_87, SZ_88, SZ_89, SZ_90, SZ_91, SZ_92, SZ_93, SZ_94, SZ_95, SZ_96, reduceIte, Bool.false_eq_true, one_ne0, X7_isRow_eq, hr, hM1, hc, ht, h0, f1, e2, hct, g2, nI_pos (show m < 2 ^ 31 by omega), nI_ge0 (show m' < 2 ^ 31 by omega), nI_pos hi, nI_pos hj, Int32.not_lt.mpr q1, q2]
      rw [X7_copy_loop n (S := S1) hM1 hr' ht' (by omega) (by omega) hn, f2]
    · refine H0.chg rfl ?_ ?_ ?_ ?_
      · obtain ⟨a1, a2, a3, a4, a5⟩ := hA
        refine ⟨?_, ?_, fun g hg => ?_, a4, a5⟩
        · rw [stRow_ne (by omega), stRow_ne (by omega), stRow_ne (by omega), stRow_ne (by omega)]; exact a1
        · rw [stRow_ne (by omega), stRow_ne (by omega), stRow_ne (by omega), stRow_ne (by omega)]; exact a2
        · rw [stRow_ne (by omega), stRow_ne (by omega), stRow_ne (by omega), stRow_ne (by omega)]; exact a3 g hg
      · refine hR.new ht' hm' ?_ ?_ (fun p hp => ?_) (fun r2 hr2 hne => ⟨?_, ?_, ?_, fun p hp => ?_⟩)
        · rw [stRow_ne (by omega), stRow_ne (by omega)]; exact g1'
        · rw [stRow_ne (by omega), stRow_ne (by omega)]; exact g2
        · rw [stRow_ne (by omega), stRow_self, stRow_self]
          unfold va_cpy
          by_cases q : j ≤ p ∧ p < j + c
          · rw [if_pos q, if_pos (by omega), e3 (i + (p - j)) (by omega)]
            exact congrArg (S.1 84) (by omega)
          · rw [if_neg q, if_neg (by omega), g3 p hp]
        · rw [stRow_ne (by omega), stRow_ne (by omega)]
        · rw [stRow_ne (by omega), stRow_ne (by omega)]
        · rw [stRow_ne (by omega), stRow_ne (by omega)]
        · rw [stRow_self]
          unfold va_cpy
          rw [if_neg (by omega)]
      · exact hT.congr (fun k q => by rw [stRow_ne (by omega), stRow_ne (by omega)])
      · exact fun k q => by rw [stRow_ne (by omega), stRow_ne (by omega)]
  · refine Both.fnd H0 2 (by decide) ?_ ?_
    · unfold F_X6_copy
      by_cases hh1 : 0 ≤ i.toInt ∧ 0 ≤ c.toInt ∧ i.toInt + c.toInt ≤ m
      · have hh2 : ¬ (0 ≤ j.toInt ∧ 0 ≤ c.toInt ∧ j.toInt + c.toInt ≤ m') := fun q => hh ⟨hh1, q⟩
        simp only [nmE, jnE, bn2S, bndS, grdT, stI_22, stL_22, stRow_22, HR0, rfdS T_1, rfdS T_2, rfdS T_3, rfdS T_4, rfdS T_5, rfdS T_9, SZ_1, SZ_2, SZ_3, SZ_4, reduceIte, Bool.false_eq_true, one_ne0, X6_isRow_eq, hr, hX.2.1, hc, x1, x2, rfdS t1, rfdS t2, t3, X4_isThere_eq, ht, h0, e1', hct, y1, y2, rfdS u1, rfdS u2, u3, g1', nI_nm1 (show m < 2 ^ 31 by omega), nI_nm1 (show m' < 2 ^ 31 by omega), X4_holds_eq n (show m < 2 ^ 31 by omega) e1', X4_holds_eq n (show m' < 2 ^ 31 by omega) g1', if_pos hh1, if_neg hh2, xf2 n hX]
      · simp only [nmE, jnE, bn2S, bndS, grdT, stI_22, stL_22, stRow_22, HR0, rfdS T_1, rfdS T_2, rfdS T_3, rfdS T_4, rfdS T_5, rfdS T_9, SZ_1, SZ_2, SZ_3, SZ_4, reduceIte, Bool.false_eq_true, one_ne0, X6_isRow_eq, hr, hX.2.1, hc, x1, x2, rfdS t1, rfdS t2, t3, X4_isThere_eq, ht, h0, e1', hct, y1, y2, rfdS u1, rfdS u2, u3, g1', nI_nm1 (show m < 2 ^ 31 by omega), nI_nm1 (show m' < 2 ^ 31 by omega), X4_holds_eq n (show m < 2 ^ 31 by omega) e1', if_neg hh1, xf2 n hX]
    · have hM1 : (xFnd S 2).2.2 82 = HRm := hM
      unfold F_X7_copy
      simp only [nmE, jnE, bn2S, bndS, grdT, stI_22, stL_22, stRow_22, HRm, rfdS T_83, rfdS T_84, rfdS T_85, rfdS T_86, rfdS T_87, rfdS T_88, rfdS T_89, rfdS T_90, rfdS T_91, rfdS T_92, rfdS T_93, rfdS T_94, rfdS T_95, rfdS T_96, SZ_83, SZ_84, SZ_85, SZ_86, SZ_87, SZ_88, SZ_89, SZ_90, SZ_91, SZ_92, SZ_93, SZ_94, SZ_95, SZ_96, reduceIte, Bool.false_eq_true, one_ne0, X7_isRow_eq, hr, hM1, hc, ht, h0, xFnd_m (show 5 ≤ 83 by decide), e2, hct, g2, nI_pos (show m < 2 ^ 31 by omega), nI_ge0 (show m' < 2 ^ 31 by omega), mf2 n (RfM_xFnd hM)]
      by_cases k1 : i < 0
      · rw [if_pos k1]
      rw [if_neg k1]
      by_cases k2 : j < 0
      · rw [if_pos k2]
      rw [if_neg k2]
      rw [lt0] at k1 k2
      by_cases k3 : lg_cmp (i.toInt64 + c.toInt64) (nI m).toInt64 ≤ 0
      · rw [if_neg (Int32.not_lt.mpr k3)]
        rw [cmp64 i c (by omega)] at k3
        rw [if_neg]
        rw [cmp64 j c (by omega)]
        omega
      · rw [if_pos (Int32.not_le.mp k3)]
