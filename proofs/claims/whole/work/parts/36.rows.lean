/-! Texts: text, put. -/
/-- the reference's text(r, m) -/
theorem X7_text_eq (n : Nat) {S : aSt} (hM : RfM S) {r m : Nat} (hr : r < 4) (hm : m ≤ 80) (hn : 100 < n) : F_X7_text n S 82 (nI r) (nI m) = some (nI m, stRow (stI S 85 r (nI m)) 86 (fil (S.1 86) (80 * r) 80 32)) := by
  have hM1 : S.2.2 82 = HRm := hM
  have hi : inb (nI r) 4 = true := inb_nI hr (by decide)
  unfold F_X7_text
  simp only [nmE, jnE, bn2S, bndS, grdT, stI_22, stL_22, stRow_22, HRm, rfdS T_83, rfdS T_84, rfdS T_85, rfdS T_86, rfdS T_87, rfdS T_88, rfdS T_89, rfdS T_90, rfdS T_91, rfdS T_92, rfdS T_93, rfdS T_94, rfdS T_95, rfdS T_96, SZ_83, SZ_84, SZ_85, SZ_86, SZ_87, SZ_88, SZ_89, SZ_90, SZ_91, SZ_92, SZ_93, SZ_94, SZ_95, SZ_96, reduceIte, Bool.false_eq_true, one_ne0, X7_isText_eq, hi, hM1, nI_le80 hm, nI_ge0 (show m < 2 ^ 31 by omega), nI_clamp (show r < 2 ^ 31 by omega)]
  rw [X7_text_loop n (S := stI S 85 r (nI m)) hM hr _ (by omega), stI_ne (by omega)]
theorem OK.txt {S : aSt} (H : OK S) {r m : Nat} (hr : r < 4) (hm : m ≤ 80) (f : Nat → Int32) (g : Nat → Int32) (hfg : ∀ i, i < m → f i = g (80 * r + i)) (hg : ∀ j, ¬ (80 * r ≤ j ∧ j < 80 * r + 80) → g j = S.1 86 j) : OK (stRow (stI (stI (stRow S (53 + 2 * r + 1) f) (53 + 2 * r) 1 (nI m)) 85 r (nI m)) 86 g) := by
  refine H.chg rfl ?_ ?_ ?_ ?_
  · obtain ⟨a1, a2, a3, a4, a5⟩ := H.pa
    refine ⟨?_, ?_, fun g hg => ?_, a4, a5⟩
    · rw [stRow_ne (by omega), stI_ne (by omega), stI_ne (by omega), stRow_ne (by omega), stRow_ne (by omega), stI_ne (by omega), stI_ne (by omega), stRow_ne (by omega)]; exact a1
    · rw [stRow_ne (by omega), stI_ne (by omega), stI_ne (by omega), stRow_ne (by omega), stRow_ne (by omega), stI_ne (by omega), stI_ne (by omega), stRow_ne (by omega)]; exact a2
    · rw [stRow_ne (by omega), stI_ne (by omega), stI_ne (by omega), stRow_ne (by omega), stRow_ne (by omega), stI_ne (by omega), stI_ne (by omega), stRow_ne (by omega)]; exact a3 g hg
  · exact H.pr.congr (fun k q => by rw [stRow_ne (by omega), stI_ne (by omega), stI_ne (by omega), stRow_ne (by omega)])
  · refine H.pt.new hr hm ?_ ?_ (fun j hj => ?_) (fun r2 hr2 hne => ⟨?_, ?_, ?_, fun j hj => ?_⟩)
    · rw [stRow_ne (by omega), stI_ne (by omega), stI_self]; simp [upd]
    · rw [stRow_ne (by omega), stI_self]; simp [upd]
    · rw [stRow_ne (by omega), stI_ne (by omega), stI_ne (by omega), stRow_self, stRow_self]; exact hfg j hj
    · rw [stRow_ne (by omega), stI_ne (by omega), stI_ne (by omega), stRow_ne (by omega)]
    · rw [stRow_ne (by omega), stI_ne (by omega), stI_ne (by omega), stRow_ne (by omega)]
    · rw [stRow_ne (by omega), stI_self, stI_ne (by omega), stRow_ne (by omega)]; simp [upd, hne]
    · rw [stRow_self]; exact hg _ (by omega)
  · exact fun k q => by rw [stRow_ne (by omega), stI_ne (by omega), stI_ne (by omega), stRow_ne (by omega)]
set_option maxRecDepth 4000 in
theorem op_text (n : Nat) (hn : 100 < n) {S : aSt} (H : OK S) (r v : Int32) : Both S (F_X6_text n S 0 r v) (fun S1 => F_X7_text n S1 82 r v) := by
  by_cases hr : inb r 4 = true
  · obtain ⟨r, hr', rfl⟩ := inb_ex hr (by decide)
    have H0 := H
    obtain ⟨h, d, hX, hM, hA, hR, hT, -⟩ := H
    obtain ⟨x1, x2⟩ := xtxt hX hr'
    obtain ⟨t1, t2, t3⟩ := txtT hr'
    have hc : (nI r).toNatClampNeg = r := nI_clamp (by omega)
    by_cases h40 : v ≤ 80
    · by_cases h0 : 0 ≤ v
      · obtain ⟨m, hm, rfl⟩ := nI_of2 (x := v) (M := 80) (n := 80) rfl (Int32.not_lt.mpr h0) h40
        refine ⟨nI m, stI (stRow S (53 + 2 * r + 1) (fil (S.1 (53 + 2 * r + 1)) 0 80 32)) (53 + 2 * r) 1 (nI m), _, ?_, ?_, H0.txt hr' hm (fil (S.1 (53 + 2 * r + 1)) 0 80 32) (fil (S.1 86) (80 * r) 80 32) (fun i hi => ?_) (fun j hj => ?_)⟩
        · unfold F_X6_text
          simp only [nmE, jnE, bn2S, bndS, grdT, stI_22, stL_22, stRow_22, HR0, rfdS T_1, rfdS T_2, rfdS T_3, rfdS T_4, rfdS T_5, rfdS T_9, SZ_1, SZ_2, SZ_3, SZ_4, reduceIte, Bool.false_eq_true, one_ne0, X6_isText_eq, hr, hX.2.1, hc, x1, x2, rfdS t1, rfdS t2, t3, X4_isThere_eq, h40, h0, X4_begin_eq n x2 t2 t3 (by decide) (show 80 < n by omega) hm]
        · refine (X7_text_eq n (S := stI (stRow S (53 + 2 * r + 1) (fil (S.1 (53 + 2 * r + 1)) 0 80 32)) (53 + 2 * r) 1 (nI m)) hM hr' hm hn).trans ?_
          rw [stI_ne (a := 86) (by omega), stRow_ne (a := 86) (by omega)]
        · unfold fil
          rw [if_pos (by omega), if_pos (by omega)]
        · unfold fil
          rw [if_neg hj]
      · refine Both.fnd H0 5 (by decide) ?_ ?_
        · unfold F_X6_text
          simp only [nmE, jnE, bn2S, bndS, grdT, stI_22, stL_22, stRow_22, HR0, rfdS T_1, rfdS T_2, rfdS T_3, rfdS T_4, rfdS T_5, rfdS T_9, SZ_1, SZ_2, SZ_3, SZ_4, reduceIte, Bool.false_eq_true, one_ne0, X6_isText_eq, hr, hX.2.1, hc, x1, x2, rfdS t1, rfdS t2, t3, X4_isThere_eq, h40, h0, xf5 n hX]
        · have hM1 : (xFnd S 5).2.2 82 = HRm := hM
          unfold F_X7_text
          simp only [nmE, jnE, bn2S, bndS, grdT, stI_22, stL_22, stRow_22, HRm, rfdS T_83, rfdS T_84, rfdS T_85, rfdS T_86, rfdS T_87, rfdS T_88, rfdS T_89, rfdS T_90, rfdS T_91, rfdS T_92, rfdS T_93, rfdS T_94, rfdS T_95, rfdS T_96, SZ_83, SZ_84, SZ_85, SZ_86, SZ_87, SZ_88, SZ_89, SZ_90, SZ_91, SZ_92, SZ_93, SZ_94, SZ_95, SZ_96, reduceIte, Bool.false_eq_true, one_ne0, X7_isText_eq, hr, hM1, hc, h40, h0, mf5 n (RfM_xFnd hM)]
    · refine Both.same H0 (-1) ?_ ?_
      · unfold F_X6_text
        simp only [nmE, jnE, bn2S, bndS, grdT, stI_22, stL_22, stRow_22, HR0, rfdS T_1, rfdS T_2, rfdS T_3, rfdS T_4, rfdS T_5, rfdS T_9, SZ_1, SZ_2, SZ_3, SZ_4, reduceIte, Bool.false_eq_true, one_ne0, X6_isText_eq, hr, h40]
      · unfold F_X7_text
        simp only [nmE, jnE, bn2S, bndS, grdT, stI_22, stL_22, stRow_22, HRm, rfdS T_83, rfdS T_84, rfdS T_85, rfdS T_86, rfdS T_87, rfdS T_88, rfdS T_89, rfdS T_90, rfdS T_91, rfdS T_92, rfdS T_93, rfdS T_94, rfdS T_95, rfdS T_96, SZ_83, SZ_84, SZ_85, SZ_86, SZ_87, SZ_88, SZ_89, SZ_90, SZ_91, SZ_92, SZ_93, SZ_94, SZ_95, SZ_96, reduceIte, Bool.false_eq_true, one_ne0, X7_isText_eq, hr, h40]
  · refine Both.same H (-1) ?_ ?_
    · unfold F_X6_text
      simp only [nmE, jnE, bn2S, bndS, grdT, stI_22, stL_22, stRow_22, HR0, rfdS T_1, rfdS T_2, rfdS T_3, rfdS T_4, rfdS T_5, rfdS T_9, SZ_1, SZ_2, SZ_3, SZ_4, reduceIte, Bool.false_eq_true, one_ne0, X6_isText_eq, hr]
    · unfold F_X7_text
      simp only [nmE, jnE, bn2S, bndS, grdT, stI_22, stL_22, stRow_22, HRm, rfdS T_83, rfdS T_84, rfdS T_85, rfdS T_86, rfdS T_87, rfdS T_88, rfdS T_89, rfdS T_90, rfdS T_91, rfdS T_92, rfdS T_93, rfdS T_94, rfdS T_95, rfdS T_96, SZ_83, SZ_84, SZ_85, SZ_86, SZ_87, SZ_88, SZ_89, SZ_90, SZ_91, SZ_92, SZ_93, SZ_94, SZ_95, SZ_96, reduceIte, Bool.false_eq_true, one_ne0, X7_isText_eq, hr]
set_option maxRecDepth 4000 in
theorem op_put (n : Nat) {S : aSt} (H : OK S) (r i v : Int32) : Both S (F_X6_put n S 0 r i v) (fun S1 => F_X7_put n S1 82 r i v) := by
  by_cases hr : inb r 4 = true
  · obtain ⟨r, hr', rfl⟩ := inb_ex hr (by decide)
    have H0 := H
    obtain ⟨h, d, hX, hM, hA, hR, hT, -⟩ := H
    obtain ⟨x1, x2⟩ := xtxt hX hr'
    obtain ⟨t1, t2, t3⟩ := txtT hr'
    have hc : (nI r).toNatClampNeg = r := nI_clamp (by omega)
    obtain ⟨e1, e2⟩ := hT r hr'
    rcases e2 with e2 | ⟨m, hm, e2, e3⟩
    · refine Both.fnd H0 1 (by decide) ?_ ?_
      · unfold F_X6_put
        simp only [nmE, jnE, bn2S, bndS, grdT, stI_22, stL_22, stRow_22, HR0, rfdS T_1, rfdS T_2, rfdS T_3, rfdS T_4, rfdS T_5, rfdS T_9, SZ_1, SZ_2, SZ_3, SZ_4, reduceIte, Bool.false_eq_true, one_ne0, X6_isText_eq, hr, hX.2.1, hc, x1, x2, rfdS t1, rfdS t2, t3, X4_isThere_eq, e1, e2, xf1 n hX]
      · have hM1 : (xFnd S 1).2.2 82 = HRm := hM
        unfold F_X7_put
        simp only [nmE, jnE, bn2S, bndS, grdT, stI_22, stL_22, stRow_22, HRm, rfdS T_83, rfdS T_84, rfdS T_85, rfdS T_86, rfdS T_87, rfdS T_88, rfdS T_89, rfdS T_90, rfdS T_91, rfdS T_92, rfdS T_93, rfdS T_94, rfdS T_95, rfdS T_96, SZ_83, SZ_84, SZ_85, SZ_86, SZ_87, SZ_88, SZ_89, SZ_90, SZ_91, SZ_92, SZ_93, SZ_94, SZ_95, SZ_96, reduceIte, Bool.false_eq_true, one_ne0, X7_isText_eq, hr, hM1, hc, xFnd_m (show 5 ≤ 85 by decide), e2, m1_lt, mf1 n (RfM_xFnd hM)]
    · have e1' := e1.trans e2
      by_cases hi : inb i m = true
      · obtain ⟨i, hi', rfl⟩ := inb_ex hi (by omega)
        have hci : (nI i).toNatClampNeg = i := nI_clamp (by omega)
        refine ⟨S.1 86 (80 * r + i) + 1000, stI S (53 + 2 * r + 1) i v.toInt8.toInt32, stI (stI S (53 + 2 * r + 1) i v.toInt8.toInt32) 86 (80 * r + i) v.toInt8.toInt32, ?_, ?_, ?_⟩
        · unfold F_X6_put
          simp only [nmE, jnE, bn2S, bndS, grdT, stI_22, stL_22, stRow_22, HR0, rfdS T_1, rfdS T_2, rfdS T_3, rfdS T_4, rfdS T_5, rfdS T_9, SZ_1, SZ_2, SZ_3, SZ_4, reduceIte, Bool.false_eq_true, one_ne0, X6_isText_eq, hr, hX.2.1, hc, x1, x2, rfdS t1, rfdS t2, t3, X4_isThere_eq, hci, X4_reaches_eq n (show m < 2 ^ 31 by omega) e1', e1', hi, nI_nm1 (show m < 2 ^ 31 by omega), inb_nI (show i < 80 by omega) (by decide), e3 i hi']
        · have hM1 : (stI S (53 + 2 * r + 1) i v.toInt8.toInt32).2.2 82 = HRm := hM
          have f1 : (stI S (53 + 2 * r + 1) i v.toInt8.toInt32).1 85 = S.1 85 := by rw [stI_ne (by omega)]
          have f2 : (stI S (53 + 2 * r + 1) i v.toInt8.toInt32).1 86 = S.1 86 := by rw [stI_ne (by omega)]
          have hM2 : S.2.2 82 = HRm := hM
          show F_X7_put n (stI S (53 + 2 * r + 1) i v.toInt8.toInt32) 82 (nI r) (nI i) v = _
          generalize stI S (53 + 2 * r + 1) i v.toInt8.toInt32 = S1 at *
          unfold F_X7_put
          simp only [nmE, jnE, bn2S, bndS, grdT, stI_22, stL_22, stRow_22, HRm, rfdS T_83, rfdS T_84, rfdS T_85, rfdS T_86, rfdS T_87, rfdS T_88, rfdS T_89, rfdS T_90, rfdS T_91, rfdS T_92, rfdS T_93, rfdS T_94, rfdS T_95, rfdS T_96, SZ_83, SZ_84, SZ_85, SZ_86, SZ_87, SZ_88, SZ_89, SZ_90, SZ_91, SZ_92, SZ_93, SZ_94, SZ_95, SZ_96, reduceIte, Bool.false_eq_true, one_ne0, X7_isText_eq, hr, hM1, hc, f1, f2, e2, nI_ge0 (show m < 2 ^ 31 by omega), X7_in_sz n _ _ (show m < 2 ^ 31 by omega), hi, li_80, pk_mul, nI_add, inb_nI (show 80 * r + i < 320 by omega) (by decide), nI_clamp (show 80 * r + i < 2 ^ 31 by omega)]
        · refine H0.chg rfl ?_ ?_ ?_ ?_
          · obtain ⟨a1, a2, a3, a4, a5⟩ := hA
            refine ⟨?_, ?_, fun g hg => ?_, a4, a5⟩
            · rw [stI_ne (by omega), stI_ne (by omega), stI_ne (by omega), stI_ne (by omega)]; exact a1
            · rw [stI_ne (by omega), stI_ne (by omega), stI_ne (by omega), stI_ne (by omega)]; exact a2
            · rw [stI_ne (by omega), stI_ne (by omega), stI_ne (by omega), stI_ne (by omega)]; exact a3 g hg
          · exact hR.congr (fun k q => by rw [stI_ne (by omega), stI_ne (by omega)])
          · refine hT.new hr' hm ?_ ?_ (fun j hj => ?_) (fun r2 hr2 hne => ⟨?_, ?_, ?_, fun j hj => ?_⟩)
            · rw [stI_ne (by omega), stI_ne (by omega)]; exact e1'
            · rw [stI_ne (by omega), stI_ne (by omega)]; exact e2
            · rw [stI_ne (a := 53 + 2 * r + 1) (by omega), stI_self, stI_self, stI_ne (a := 86) (by omega)]
              unfold upd
              by_cases ej : j = i
              · subst ej; simp
              · rw [if_neg ej, if_neg (by omega)]; exact e3 j hj
            · rw [stI_ne (by omega), stI_ne (by omega)]
            · rw [stI_ne (by omega), stI_ne (by omega)]
            · rw [stI_ne (by omega), stI_ne (by omega)]
            · rw [stI_self, stI_ne (a := 86) (by omega)]
              unfold upd
              rw [if_neg (by omega)]
          · exact fun k q => by rw [stI_ne (by omega), stI_ne (by omega)]
      · refine Both.fnd H0 2 (by decide) ?_ ?_
        · unfold F_X6_put
          simp only [nmE, jnE, bn2S, bndS, grdT, stI_22, stL_22, stRow_22, HR0, rfdS T_1, rfdS T_2, rfdS T_3, rfdS T_4, rfdS T_5, rfdS T_9, SZ_1, SZ_2, SZ_3, SZ_4, reduceIte, Bool.false_eq_true, one_ne0, X6_isText_eq, hr, hX.2.1, hc, x1, x2, rfdS t1, rfdS t2, t3, X4_isThere_eq, X4_reaches_eq n (show m < 2 ^ 31 by omega) e1', e1', hi, nI_nm1 (show m < 2 ^ 31 by omega), xf2 n hX]
        · have hM1 : (xFnd S 2).2.2 82 = HRm := hM
          unfold F_X7_put
          simp only [nmE, jnE, bn2S, bndS, grdT, stI_22, stL_22, stRow_22, HRm, rfdS T_83, rfdS T_84, rfdS T_85, rfdS T_86, rfdS T_87, rfdS T_88, rfdS T_89, rfdS T_90, rfdS T_91, rfdS T_92, rfdS T_93, rfdS T_94, rfdS T_95, rfdS T_96, SZ_83, SZ_84, SZ_85, SZ_86, SZ_87, SZ_88, SZ_89, SZ_90, SZ_91, SZ_92, SZ_93, SZ_94, SZ_95, SZ_96, reduceIte, Bool.false_eq_true, one_ne0, X7_isText_eq, hr, hM1, hc, xFnd_m (show 5 ≤ 85 by decide), e2, nI_ge0 (show m < 2 ^ 31 by omega), X7_in_sz n _ _ (show m < 2 ^ 31 by omega), hi, mf2 n (RfM_xFnd hM)]
  · refine Both.same H (-1) ?_ ?_
    · unfold F_X6_put
      simp only [nmE, jnE, bn2S, bndS, grdT, stI_22, stL_22, stRow_22, HR0, rfdS T_1, rfdS T_2, rfdS T_3, rfdS T_4, rfdS T_5, rfdS T_9, SZ_1, SZ_2, SZ_3, SZ_4, reduceIte, Bool.false_eq_true, one_ne0, X6_isText_eq, hr]
    · unfold F_X7_put
      simp only [nmE, jnE, bn2S, bndS, grdT, stI_22, stL_22, stRow_22, HRm, rfdS T_83, rfdS T_84, rfdS T_85, rfdS T_86, rfdS T_87, rfdS T_88, rfdS T_89, rfdS T_90, rfdS T_91, rfdS T_92, rfdS T_93, rfdS T_94, rfdS T_95, rfdS T_96, SZ_83, SZ_84, SZ_85, SZ_86, SZ_87, SZ_88, SZ_89, SZ_90, SZ_91, SZ_92, SZ_93, SZ_94, SZ_95, SZ_96, reduceIte, Bool.false_eq_true, one_ne0, X7_isText_eq, hr]
