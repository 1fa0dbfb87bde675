/-! Rows and texts: lay, tear, row, text, put. -/
theorem OK.chg {S S' : aSt} (H : OK S) (er : S'.2.2 = S.2.2) (hA : PA S') (hR : PR S') (hT : PT S') (e : ∀ k, (13 ≤ k ∧ k ≤ 40) ∨ (61 ≤ k ∧ k ≤ 81) ∨ (87 ≤ k ∧ k ≤ 89) → S'.1 k = S.1 k) : OK S' := by
  obtain ⟨h, d, hX, hM, -, -, -, C, Q, T, L, hw, hx, hm, hk⟩ := H
  refine ⟨h, d, ?_, ?_, hA, hR, hT, C, Q, T, L, hw, hx.congr (fun k a b => e k ?_), ?_, hk.congr (fun k q => e k (by omega))⟩
  · unfold RfX at *; rw [er]; exact hX
  · unfold RfM at *; rw [er]; exact hM
  · rcases hX.hd with rfl | rfl <;> omega
  · rw [e 87 (by omega)]; exact hm
theorem OK.pr {S : aSt} (H : OK S) : PR S := by obtain ⟨h, d, -, -, -, h1, -⟩ := H; exact h1
theorem OK.pt {S : aSt} (H : OK S) : PT S := by obtain ⟨h, d, -, -, -, -, h1, -⟩ := H; exact h1
theorem PR.new {S S' : aSt} (H : PR S) {r m : Nat} (hr : r < 6) (hm : m ≤ 40) (h1 : S'.1 (41 + 2 * r) 1 = nI m) (h2 : S'.1 83 r = nI m) (h3 : ∀ i, i < m → S'.1 (41 + 2 * r + 1) i = S'.1 84 (40 * r + i)) (o : ∀ r2, r2 < 6 → r2 ≠ r → S'.1 (41 + 2 * r2) = S.1 (41 + 2 * r2) ∧ S'.1 (41 + 2 * r2 + 1) = S.1 (41 + 2 * r2 + 1) ∧ S'.1 83 r2 = S.1 83 r2 ∧ ∀ i, i < 40 → S'.1 84 (40 * r2 + i) = S.1 84 (40 * r2 + i)) : PR S' := by
  intro r2 hr2
  by_cases e : r2 = r
  · subst e
    exact ⟨h1.trans h2.symm, Or.inr ⟨m, hm, h2, h3⟩⟩
  · obtain ⟨o1, o2, o3, o4⟩ := o r2 hr2 e
    obtain ⟨a1, a2⟩ := H r2 hr2
    rw [o1, o2, o3]
    refine ⟨a1, ?_⟩
    rcases a2 with a2 | ⟨m2, b1, b2, b3⟩
    · exact Or.inl a2
    · exact Or.inr ⟨m2, b1, b2, fun i hi => (b3 i hi).trans (o4 i (by omega)).symm⟩
theorem PT.new {S S' : aSt} (H : PT S) {r m : Nat} (hr : r < 4) (hm : m ≤ 80) (h1 : S'.1 (53 + 2 * r) 1 = nI m) (h2 : S'.1 85 r = nI m) (h3 : ∀ i, i < m → S'.1 (53 + 2 * r + 1) i = S'.1 86 (80 * r + i)) (o : ∀ r2, r2 < 4 → r2 ≠ r → S'.1 (53 + 2 * r2) = S.1 (53 + 2 * r2) ∧ S'.1 (53 + 2 * r2 + 1) = S.1 (53 + 2 * r2 + 1) ∧ S'.1 85 r2 = S.1 85 r2 ∧ ∀ i, i < 80 → S'.1 86 (80 * r2 + i) = S.1 86 (80 * r2 + i)) : PT S' := by
  intro r2 hr2
  by_cases e : r2 = r
  · subst e
    exact ⟨h1.trans h2.symm, Or.inr ⟨m, hm, h2, h3⟩⟩
  · obtain ⟨o1, o2, o3, o4⟩ := o r2 hr2 e
    obtain ⟨a1, a2⟩ := H r2 hr2
    rw [o1, o2, o3]
    refine ⟨a1, ?_⟩
    rcases a2 with a2 | ⟨m2, b1, b2, b3⟩
    · exact Or.inl a2
    · exact Or.inr ⟨m2, b1, b2, fun i hi => (b3 i hi).trans (o4 i (by omega)).symm⟩
set_option maxRecDepth 4000 in
theorem op_lay (n : Nat) {S : aSt} (H : OK S) (r i v : Int32) : Both S (F_X6_lay n S 0 r i v) (fun S1 => F_X7_lay n S1 82 r i v) := by
  by_cases hr : inb r 6 = true
  · obtain ⟨r, hr', rfl⟩ := inb_ex hr (by decide)
    have H0 := H
    obtain ⟨h, d, hX, hM, hA, hR, hT, -⟩ := H
    obtain ⟨x1, x2⟩ := xrow hX hr'
    obtain ⟨t1, t2, t3⟩ := rowT hr'
    have hc : (nI r).toNatClampNeg = r := nI_clamp (by omega)
    obtain ⟨e1, e2⟩ := hR r hr'
    rcases e2 with e2 | ⟨m, hm, e2, e3⟩
    · refine Both.fnd H0 1 (by decide) ?_ ?_
      · unfold F_X6_lay
        simp only [nmE, jnE, bn2S, bndS, grdT, stI_22, stL_22, stRow_22, HR0, rfdS T_1, rfdS T_2, rfdS T_3, rfdS T_4, rfdS T_5, rfdS T_9, SZ_1, SZ_2, SZ_3, SZ_4, reduceIte, Bool.false_eq_true, one_ne0, X6_isRow_eq, hr, hX.2.1, hc, x1, x2, rfdS t1, rfdS t2, t3, X4_isThere_eq, e1, e2, xf1 n hX]
      · have hM1 : (xFnd S 1).2.2 82 = HRm := hM
        unfold F_X7_lay
        simp only [nmE, jnE, bn2S, bndS, grdT, stI_22, stL_22, stRow_22, HRm, rfdS T_83, rfdS T_84, rfdS T_85, rfdS T_86, rfdS T_87, rfdS T_88, rfdS T_89, rfdS T_90, rfdS T_91, rfdS T_92, rfdS T_93, rfdS T_94, rfdS T_95, rfdS T_96, SZ_83, SZ_84, SZ_85, SZ_86, SZ_87, SZ_88, SZ_89, SZ_90, SZ_91, SZ_92, SZ_93, SZ_94, SZ_95, SZ_96, reduceIte, Bool.false_eq_true, one_ne0, X7_isRow_eq, hr, hM1, hc, xFnd_m (show 5 ≤ 83 by decide), e2, m1_lt, mf1 n (RfM_xFnd hM)]
    · have e1' := e1.trans e2
      by_cases hi : inb i m = true
      · obtain ⟨i, hi', rfl⟩ := inb_ex hi (by omega)
        have hci : (nI i).toNatClampNeg = i := nI_clamp (by omega)
        refine ⟨1, stI (stI S 0 8 (S.1 84 (40 * r + i))) (41 + 2 * r + 1) i v, stI (stI (stI (stI S 0 8 (S.1 84 (40 * r + i))) (41 + 2 * r + 1) i v) 84 (40 * r + i) v) 82 7 (S.1 84 (40 * r + i)), ?_, ?_, ?_⟩
        · unfold F_X6_lay
          simp only [nmE, jnE, bn2S, bndS, grdT, stI_22, stL_22, stRow_22, HR0, rfdS T_1, rfdS T_2, rfdS T_3, rfdS T_4, rfdS T_5, rfdS T_9, SZ_1, SZ_2, SZ_3, SZ_4, reduceIte, Bool.false_eq_true, one_ne0, X6_isRow_eq, hr, hX.2.1, hc, x1, x2, rfdS t1, rfdS t2, t3, X4_isThere_eq, hci, X4_reaches_eq n (show m < 2 ^ 31 by omega) e1', e1', hi, nI_nm1 (show m < 2 ^ 31 by omega), inb_nI (show i < 40 by omega) (by decide), e3 i hi']
        · have hM1 : (stI (stI S 0 8 (S.1 84 (40 * r + i))) (41 + 2 * r + 1) i v).2.2 82 = HRm := hM
          have f1 : (stI (stI S 0 8 (S.1 84 (40 * r + i))) (41 + 2 * r + 1) i v).1 83 = S.1 83 := by rw [stI_ne (by omega), stI_ne (by omega)]
          have f2 : (stI (stI S 0 8 (S.1 84 (40 * r + i))) (41 + 2 * r + 1) i v).1 84 = S.1 84 := by rw [stI_ne (by omega), stI_ne (by omega)]
          have hM2 : S.2.2 82 = HRm := hM
          show F_X7_lay n (stI (stI S 0 8 (S.1 84 (40 * r + i))) (41 + 2 * r + 1) i v) 82 (nI r) (nI i) v = _
          generalize stI (stI S 0 8 (S.1 84 (40 * r + i))) (41 + 2 * r + 1) i v = S1 at *
          unfold F_X7_lay
          simp only [nmE, jnE, bn2S, bndS, grdT, stI_22, stL_22, stRow_22, HRm, rfdS T_83, rfdS T_84, rfdS T_85, rfdS T_86, rfdS T_87, rfdS T_88, rfdS T_89, rfdS T_90, rfdS T_91, rfdS T_92, rfdS T_93, rfdS T_94, rfdS T_95, rfdS T_96, SZ_83, SZ_84, SZ_85, SZ_86, SZ_87, SZ_88, SZ_89, SZ_90, SZ_91, SZ_92, SZ_93, SZ_94, SZ_95, SZ_96, reduceIte, Bool.false_eq_true, one_ne0, X7_isRow_eq, hr, hM1, hc, f1, f2, e2, nI_ge0 (show m < 2 ^ 31 by omega), X7_in_sz n _ _ (show m < 2 ^ 31 by omega), hi, li_40, pk_mul, nI_add, inb_nI (show 40 * r + i < 240 by omega) (by decide), nI_clamp (show 40 * r + i < 2 ^ 31 by omega), X7_tell_eq, mTell]
        · refine H0.chg rfl ?_ ?_ ?_ ?_
          · obtain ⟨a1, a2, a3, a4, a5⟩ := hA
            refine ⟨?_, ?_, fun g hg => ?_, a4, a5⟩
            · simp [stI_at]
            · simp [stI_at, a2]; intro q; omega
            · rw [stI_ne (by omega), stI_ne (by omega), stI_ne (by omega), stI_ne (by omega), stI_ne (by omega), stI_ne (by omega), stI_ne (by omega), stI_ne (by omega)]
              exact a3 g hg
          · refine hR.new hr' hm ?_ ?_ (fun j hj => ?_) (fun r2 hr2 hne => ⟨?_, ?_, ?_, fun j hj => ?_⟩)
            · rw [stI_ne (by omega), stI_ne (by omega), stI_ne (by omega), stI_ne (by omega)]; exact e1'
            · rw [stI_ne (by omega), stI_ne (by omega), stI_ne (by omega), stI_ne (by omega)]; exact e2
            · rw [stI_ne (a := 84) (by omega), stI_ne (a := 41 + 2 * r + 1) (by omega), stI_ne (a := 41 + 2 * r + 1) (by omega), stI_self, stI_self, stI_ne (a := 41 + 2 * r + 1) (by omega), stI_ne (a := 84) (by omega), stI_ne (a := 84) (by omega)]
              unfold upd
              by_cases ej : j = i
              · subst ej; simp
              · rw [if_neg ej, if_neg (by omega)]; exact e3 j hj
            · rw [stI_ne (by omega), stI_ne (by omega), stI_ne (by omega), stI_ne (by omega)]
            · rw [stI_ne (by omega), stI_ne (by omega), stI_ne (by omega), stI_ne (by omega)]
            · rw [stI_ne (by omega), stI_ne (by omega), stI_ne (by omega), stI_ne (by omega)]
            · rw [stI_ne (a := 84) (by omega), stI_self, stI_ne (a := 84) (by omega), stI_ne (a := 84) (by omega)]
              unfold upd
              rw [if_neg (by omega)]
          · exact hT.congr (fun k q => by rw [stI_ne (by omega), stI_ne (by omega), stI_ne (by omega), stI_ne (by omega)])
          · exact fun k q => by rw [stI_ne (by omega), stI_ne (by omega), stI_ne (by omega), stI_ne (by omega)]
      · refine Both.fnd H0 2 (by decide) ?_ ?_
        · unfold F_X6_lay
          simp only [nmE, jnE, bn2S, bndS, grdT, stI_22, stL_22, stRow_22, HR0, rfdS T_1, rfdS T_2, rfdS T_3, rfdS T_4, rfdS T_5, rfdS T_9, SZ_1, SZ_2, SZ_3, SZ_4, reduceIte, Bool.false_eq_true, one_ne0, X6_isRow_eq, hr, hX.2.1, hc, x1, x2, rfdS t1, rfdS t2, t3, X4_isThere_eq, X4_reaches_eq n (show m < 2 ^ 31 by omega) e1', e1', hi, nI_nm1 (show m < 2 ^ 31 by omega), xf2 n hX]
        · have hM1 : (xFnd S 2).2.2 82 = HRm := hM
          unfold F_X7_lay
          simp only [nmE, jnE, bn2S, bndS, grdT, stI_22, stL_22, stRow_22, HRm, rfdS T_83, rfdS T_84, rfdS T_85, rfdS T_86, rfdS T_87, rfdS T_88, rfdS T_89, rfdS T_90, rfdS T_91, rfdS T_92, rfdS T_93, rfdS T_94, rfdS T_95, rfdS T_96, SZ_83, SZ_84, SZ_85, SZ_86, SZ_87, SZ_88, SZ_89, SZ_90, SZ_91, SZ_92, SZ_93, SZ_94, SZ_95, SZ_96, reduceIte, Bool.false_eq_true, one_ne0, X7_isRow_eq, hr, hM1, hc, xFnd_m (show 5 ≤ 83 by decide), e2, nI_ge0 (show m < 2 ^ 31 by omega), X7_in_sz n _ _ (show m < 2 ^ 31 by omega), hi, mf2 n (RfM_xFnd hM)]
  · refine Both.same H (-1) ?_ ?_
    · unfold F_X6_lay
      simp only [nmE, jnE, bn2S, bndS, grdT, stI_22, stL_22, stRow_22, HR0, rfdS T_1, rfdS T_2, rfdS T_3, rfdS T_4, rfdS T_5, rfdS T_9, SZ_1, SZ_2, SZ_3, SZ_4, reduceIte, Bool.false_eq_true, one_ne0, X6_isRow_eq, hr]
    · unfold F_X7_lay
      simp only [nmE, jnE, bn2S, bndS, grdT, stI_22, stL_22, stRow_22, HRm, rfdS T_83, rfdS T_84, rfdS T_85, rfdS T_86, rfdS T_87, rfdS T_88, rfdS T_89, rfdS T_90, rfdS T_91, rfdS T_92, rfdS T_93, rfdS T_94, rfdS T_95, rfdS T_96, SZ_83, SZ_84, SZ_85, SZ_86, SZ_87, SZ_88, SZ_89, SZ_90, SZ_91, SZ_92, SZ_93, SZ_94, SZ_95, SZ_96, reduceIte, Bool.false_eq_true, one_ne0, X7_isRow_eq, hr]
set_option maxRecDepth 4000 in
theorem op_tear (n : Nat) {S : aSt} (H : OK S) (r : Int32) : Both S (F_X6_tear n S 0 r) (fun S1 => F_X7_tear n S1 82 r) := by
  by_cases hr : inb r 6 = true
  · obtain ⟨r, hr', rfl⟩ := inb_ex hr (by decide)
    have H0 := H
    obtain ⟨h, d, hX, hM, hA, hR, hT, -⟩ := H
    obtain ⟨x1, x2⟩ := xrow hX hr'
    obtain ⟨t1, t2, t3⟩ := rowT hr'
    have hc : (nI r).toNatClampNeg = r := nI_clamp (by omega)
    obtain ⟨e1, e2⟩ := hR r hr'
    rcases e2 with e2 | ⟨m, hm, e2, e3⟩
    · refine Both.fnd H0 1 (by decide) ?_ ?_
      · unfold F_X6_tear
        simp only [nmE, jnE, bn2S, bndS, grdT, stI_22, stL_22, stRow_22, HR0, rfdS T_1, rfdS T_2, rfdS T_3, rfdS T_4, rfdS T_5, rfdS T_9, SZ_1, SZ_2, SZ_3, SZ_4, reduceIte, Bool.false_eq_true, one_ne0, X6_isRow_eq, hr, hX.2.1, hc, x1, x2, rfdS t1, rfdS t2, t3, X4_isThere_eq, e1, e2, xf1 n hX]
      · have hM1 : (xFnd S 1).2.2 82 = HRm := hM
        unfold F_X7_tear
        simp only [nmE, jnE, bn2S, bndS, grdT, stI_22, stL_22, stRow_22, HRm, rfdS T_83, rfdS T_84, rfdS T_85, rfdS T_86, rfdS T_87, rfdS T_88, rfdS T_89, rfdS T_90, rfdS T_91, rfdS T_92, rfdS T_93, rfdS T_94, rfdS T_95, rfdS T_96, SZ_83, SZ_84, SZ_85, SZ_86, SZ_87, SZ_88, SZ_89, SZ_90, SZ_91, SZ_92, SZ_93, SZ_94, SZ_95, SZ_96, reduceIte, Bool.false_eq_true, one_ne0, X7_isRow_eq, hr, hM1, hc, xFnd_m (show 5 ≤ 83 by decide), e2, m1_lt, mf1 n (RfM_xFnd hM)]
    · have e1' := e1.trans e2
      refine ⟨1, stI S (41 + 2 * r) 1 (-1), stI (stI S (41 + 2 * r) 1 (-1)) 83 r (-1), ?_, ?_, ?_⟩
      · unfold F_X6_tear
        simp only [nmE, jnE, bn2S, bndS, grdT, stI_22, stL_22, stRow_22, HR0, rfdS T_1, rfdS T_2, rfdS T_3, rfdS T_4, rfdS T_5, rfdS T_9, SZ_1, SZ_2, SZ_3, SZ_4, reduceIte, Bool.false_eq_true, one_ne0, X6_isRow_eq, hr, hX.2.1, hc, x1, x2, rfdS t1, rfdS t2, t3, X4_isThere_eq, e1', nI_nm1 (show m < 2 ^ 31 by omega)]
      · have hM1 : (stI S (41 + 2 * r) 1 (-1)).2.2 82 = HRm := hM
        have f1 : (stI S (41 + 2 * r) 1 (-1)).1 83 = S.1 83 := by rw [stI_ne (by omega)]
        show F_X7_tear n (stI S (41 + 2 * r) 1 (-1)) 82 (nI r) = _
        generalize stI S (41 + 2 * r) 1 (-1) = S1 at *
        unfold F_X7_tear
        simp only [nmE, jnE, bn2S, bndS, grdT, stI_22, stL_22, stRow_22, HRm, rfdS T_83, rfdS T_84, rfdS T_85, rfdS T_86, rfdS T_87, rfdS T_88, rfdS T_89, rfdS T_90, rfdS T_91, rfdS T_92, rfdS T_93, rfdS T_94, rfdS T_95, rfdS T_96, SZ_83, SZ_84, SZ_85, SZ_86, SZ_87, SZ_88, SZ_89, SZ_90, SZ_91, SZ_92, SZ_93, SZ_94, SZ_95, SZ_96, reduceIte, Bool.false_eq_true, one_ne0, X7_isRow_eq, hr, hM1, hc, f1, e2, nI_ge0 (show m < 2 ^ 31 by omega)]
      · refine H0.chg rfl ?_ ?_ ?_ ?_
        · obtain ⟨a1, a2, a3, a4, a5⟩ := hA
          refine ⟨?_, ?_, fun g hg => ?_, a4, a5⟩
          · rw [stI_ne (by omega), stI_ne (by omega), stI_ne (by omega), stI_ne (by omega)]; exact a1
          · rw [stI_ne (by omega), stI_ne (by omega), stI_ne (by omega), stI_ne (by omega)]; exact a2
          · rw [stI_ne (by omega), stI_ne (by omega), stI_ne (by omega), stI_ne (by omega)]; exact a3 g hg
        · intro r2 hr2
          by_cases e : r2 = r
          · subst e
            refine ⟨?_, Or.inl ?_⟩
            · rw [stI_ne (by omega), stI_self, stI_self]; simp [upd]
            · rw [stI_self]; simp [upd]
          · have := hR r2 hr2
            rw [stI_ne (a := 41 + 2 * r2) (by omega), stI_ne (a := 41 + 2 * r2) (by omega), stI_self, stI_ne (a := 83) (by omega), stI_ne (a := 41 + 2 * r2 + 1) (by omega), stI_ne (a := 41 + 2 * r2 + 1) (by omega), stI_ne (a := 84) (by omega), stI_ne (a := 84) (by omega)]
            simp only [upd, if_neg e]
            exact this
        · exact hT.congr (fun k q => by rw [stI_ne (by omega), stI_ne (by omega)])
        · exact fun k q => by rw [stI_ne (by omega), stI_ne (by omega)]
  · refine Both.same H (-1) ?_ ?_
    · unfold F_X6_tear
      simp only [nmE, jnE, bn2S, bndS, grdT, stI_22, stL_22, stRow_22, HR0, rfdS T_1, rfdS T_2, rfdS T_3, rfdS T_4, rfdS T_5, rfdS T_9, SZ_1, SZ_2, SZ_3, SZ_4, reduceIte, Bool.false_eq_true, one_ne0, X6_isRow_eq, hr]
    · unfold F_X7_tear
      simp only [nmE, jnE, bn2S, bndS, grdT, stI_22, stL_22, stRow_22, HRm, rfdS T_83, rfdS T_84, rfdS T_85, rfdS T_86, rfdS T_87, rfdS T_88, rfdS T_89, rfdS T_90, rfdS T_91, rfdS T_92, rfdS T_93, rfdS T_94, rfdS T_95, rfdS T_96, SZ_83, SZ_84, SZ_85, SZ_86, SZ_87, SZ_88, SZ_89, SZ_90, SZ_91, SZ_92, SZ_93, SZ_94, SZ_95, SZ_96, reduceIte, Bool.false_eq_true, one_ne0, X7_isRow_eq, hr]
