/-! Rows and texts: row, text, put. -/
theorem nI_le40 {m : Nat} (h : m ≤ 40) : nI m ≤ (40 : Int32) := (nI_leI (by omega) (by decide)).mpr h
theorem nI_le80 {m : Nat} (h : m ≤ 80) : nI m ≤ (80 : Int32) := (nI_leI (by omega) (by decide)).mpr h
def fil (f : Nat → Int32) (a c : Nat) (v : Int32) : Nat → Int32 := fun j => if a ≤ j ∧ j < a + c then v else f j
theorem fil_0 (f : Nat → Int32) (a : Nat) (v : Int32) : fil f a 0 v = f := by
  funext j
  unfold fil
  rw [if_neg (by omega)]
theorem fil_s (f : Nat → Int32) (a c : Nat) (v : Int32) : upd (fil f a c v) (a + c) v = fil f a (c + 1) v := by
  funext j
  unfold upd fil
  by_cases h : j = a + c
  · rw [if_pos h, if_pos (by omega)]
  · rw [if_neg h]
    by_cases h2 : a ≤ j ∧ j < a + c
    · rw [if_pos h2, if_pos (by omega)]
    · rw [if_neg h2, if_neg (by omega)]
theorem J7_fill_eq (n : Nat) (S : aSt) {k N : Nat} (hN : (SH k).2 = N) (h : N < 2 ^ 31) (hn : N < n) (v : Int32) : F_J7_fill_53178 n S k v = some (stRow S k (fil (S.1 k) 0 N v)) := by
  unfold F_J7_fill_53178
  simp only [nmE, jnE]
  have key := lp_eq (fun fu a i => F_J7_fill_53178_L5 k v (Int32.ofNat (SH k).2) (fun x => some x) fu i a) (fun x => some x) (fun c => stRow S k (fil (S.1 k) 0 c v)) N
    (fun fu => by
      show F_J7_fill_53178_L5 _ _ _ _ (fu + 1) _ _ = _
      rw [F_J7_fill_53178_L5, hN]
      rw [if_pos (show Int32.ofNat N ≤ nI N from Int32.le_refl _)])
    (fun fu c hc => by
      show F_J7_fill_53178_L5 _ _ _ _ (fu + 1) _ _ = F_J7_fill_53178_L5 _ _ _ _ fu _ _
      rw [F_J7_fill_53178_L5, hN]
      rw [if_neg (show ¬ Int32.ofNat N ≤ nI c from nI_ge hc h), inb_nI hc h]
      simp only [grdT, nmE]
      rw [nI_clamp (by omega), stI_stRow, nI_1]
      have := fil_s (S.1 k) 0 c v
      rw [Nat.zero_add] at this
      rw [this]) N 0 n (by omega) hn
  simp only [fil_0, stRow_id] at key
  exact key
theorem mx_eq {m N : Nat} (hm : m ≤ N) (hN : N < 2 ^ 31) : (if (0 : Int32) < (if nI N < nI m then nI N else nI m) then (if nI N < nI m then nI N else nI m) else (0 : Int32)) = nI m := by
  rw [if_neg (nI_nlt hm hN)]
  by_cases h : m = 0
  · subst h
    rfl
  · rw [if_pos]
    exact nI_lt (a := 0) (by omega) (by omega)
theorem X4_begin_eq (n : Nat) {S : aSt} {k N m : Nat} (hr : S.2.2 k 0 = some (k + 1)) (hT : isT (k + 1) 7 = true) (hN : (SH (k + 1)).2 = N) (h : N < 2 ^ 31) (hn : N < n) (hm : m ≤ N) (v : Int32) : F_X4_begin n S k (nI m) v = some (stI (stRow S (k + 1) (fil (S.1 (k + 1)) 0 N v)) k 1 (nI m)) := by
  unfold F_X4_begin
  simp only [nmE, jnE, bn2S, bndS, grdT, stI_22, stL_22, stRow_22, hr, rfdS hT, J7_fill_eq n S hN h hn]
  rw [hN]
  have := mx_eq hm h
  unfold nI at this ⊢
  rw [this]
theorem X7_row_loop (n : Nat) {S : aSt} (hM : RfM S) {r : Nat} (hr : r < 6) (K : aSt → Option (Int32 × aSt)) (hn : 40 < n) : F_X7_row_L34 82 (nI r) K n 0 S = K (stRow S 84 (fil (S.1 84) (40 * r) 40 0)) := by
  have hM' : S.2.2 82 = HRm := hM
  have key := lp_eq (fun fu a i => F_X7_row_L34 82 (nI r) K fu i a) K (fun c => stRow S 84 (fil (S.1 84) (40 * r) c 0)) 40
    (fun fu => by
      show F_X7_row_L34 _ _ _ (fu + 1) _ _ = _
      rw [F_X7_row_L34]
      rw [if_pos (show (40 : Int32) ≤ nI 40 by decide)])
    (fun fu c hc => by
      show F_X7_row_L34 _ _ _ (fu + 1) _ _ = F_X7_row_L34 _ _ _ fu _ _
      rw [F_X7_row_L34]
      rw [if_neg (show ¬ (40 : Int32) ≤ nI c from nI_ge hc (by decide))]
      simp only [nmE, jnE, bn2S, bndS, grdT, stI_22, stL_22, stRow_22, HRm, rfdS T_83, rfdS T_84, rfdS T_85, rfdS T_86, rfdS T_87, rfdS T_88, rfdS T_89, rfdS T_90, rfdS T_91, rfdS T_92, rfdS T_93, rfdS T_94, rfdS T_95, rfdS T_96, SZ_83, SZ_84, SZ_85, SZ_86, SZ_87, SZ_88, SZ_89, SZ_90, SZ_91, SZ_92, SZ_93, SZ_94, SZ_95, SZ_96, hM', li_40, pk_mul, nI_add, inb_nI (show 40 * r + c < 240 by omega) (by decide)]
      rw [nI_clamp (by omega), stI_stRow, nI_1, fil_s]) 40 0 n (by omega) hn
  simp only [fil_0, stRow_id] at key
  exact key
theorem X7_text_loop (n : Nat) {S : aSt} (hM : RfM S) {r : Nat} (hr : r < 4) (K : aSt → Option (Int32 × aSt)) (hn : 80 < n) : F_X7_text_L34 82 (nI r) K n 0 S = K (stRow S 86 (fil (S.1 86) (80 * r) 80 32)) := by
  have hM' : S.2.2 82 = HRm := hM
  have key := lp_eq (fun fu a i => F_X7_text_L34 82 (nI r) K fu i a) K (fun c => stRow S 86 (fil (S.1 86) (80 * r) c 32)) 80
    (fun fu => by
      show F_X7_text_L34 _ _ _ (fu + 1) _ _ = _
      rw [F_X7_text_L34]
      rw [if_pos (show (80 : Int32) ≤ nI 80 by decide)])
    (fun fu c hc => by
      show F_X7_text_L34 _ _ _ (fu + 1) _ _ = F_X7_text_L34 _ _ _ fu _ _
      rw [F_X7_text_L34]
      rw [if_neg (show ¬ (80 : Int32) ≤ nI c from nI_ge hc (by decide))]
      simp only [nmE, jnE, bn2S, bndS, grdT, stI_22, stL_22, stRow_22, HRm, rfdS T_83, rfdS T_84, rfdS T_85, rfdS T_86, rfdS T_87, rfdS T_88, rfdS T_89, rfdS T_90, rfdS T_91, rfdS T_92, rfdS T_93, rfdS T_94, rfdS T_95, rfdS T_96, SZ_83, SZ_84, SZ_85, SZ_86, SZ_87, SZ_88, SZ_89, SZ_90, SZ_91, SZ_92, SZ_93, SZ_94, SZ_95, SZ_96, hM', li_80, pk_mul, nI_add, inb_nI (show 80 * r + c < 320 by omega) (by decide)]
      rw [nI_clamp (by omega), stI_stRow, nI_1, fil_s]) 80 0 n (by omega) hn
  simp only [fil_0, stRow_id] at key
  exact key
/-- the reference's row(r, m) -/
theorem X7_row_eq (n : Nat) {S : aSt} (hM : RfM S) {r m : Nat} (hr : r < 6) (hm : m ≤ 40) (hn : 100 < n) : F_X7_row n S 82 (nI r) (nI m) = some (nI m, stRow (stI S 83 r (nI m)) 84 (fil (S.1 84) (40 * r) 40 0)) := by
  have hM1 : S.2.2 82 = HRm := hM
  have hi : inb (nI r) 6 = true := inb_nI hr (by decide)
  unfold F_X7_row
  simp only [nmE, jnE, bn2S, bndS, grdT, stI_22, stL_22, stRow_22, HRm, rfdS T_83, rfdS T_84, rfdS T_85, rfdS T_86, rfdS T_87, rfdS T_88, rfdS T_89, rfdS T_90, rfdS T_91, rfdS T_92, rfdS T_93, rfdS T_94, rfdS T_95, rfdS T_96, SZ_83, SZ_84, SZ_85, SZ_86, SZ_87, SZ_88, SZ_89, SZ_90, SZ_91, SZ_92, SZ_93, SZ_94, SZ_95, SZ_96, reduceIte, Bool.false_eq_true, one_ne0, X7_isRow_eq, hi, hM1, nI_le40 hm, nI_ge0 (show m < 2 ^ 31 by omega), nI_clamp (show r < 2 ^ 31 by omega)]
  rw [X7_row_loop n (S := stI S 83 r (nI m)) hM hr _ (by omega), stI_ne (by omega)]
theorem OK.row {S : aSt} (H : OK S) {r m : Nat} (hr : r < 6) (hm : m ≤ 40) (f : Nat → Int32) (g : Nat → Int32) (hfg : ∀ i, i < m → f i = g (40 * r + i)) (hg : ∀ j, ¬ (40 * r ≤ j ∧ j < 40 * r + 40) → g j = S.1 84 j) : OK (stRow (stI (stI (stRow S (41 + 2 * r + 1) f) (41 + 2 * r) 1 (nI m)) 83 r (nI m)) 84 g) := by
  refine H.chg rfl ?_ ?_ ?_ ?_
  · obtain ⟨a1, a2, a3, a4, a5⟩ := H.pa
    refine ⟨?_, ?_, fun g hg => ?_, a4, a5⟩
    · rw [stRow_ne (by omega), stI_ne (by omega), stI_ne (by omega), stRow_ne (by omega), stRow_ne (by omega), stI_ne (by omega), stI_ne (by omega), stRow_ne (by omega)]; exact a1
    · rw [stRow_ne (by omega), stI_ne (by omega), stI_ne (by omega), stRow_ne (by omega), stRow_ne (by omega), stI_ne (by omega), stI_ne (by omega), stRow_ne (by omega)]; exact a2
    · rw [stRow_ne (by omega), stI_ne (by omega), stI_ne (by omega), stRow_ne (by omega), stRow_ne (by omega), stI_ne (by omega), stI_ne (by omega), stRow_ne (by omega)]; exact a3 g hg
  · refine H.pr.new hr hm ?_ ?_ (fun j hj => ?_) (fun r2 hr2 hne => ⟨?_, ?_, ?_, fun j hj => ?_⟩)
    · rw [stRow_ne (by omega), stI_ne (by omega), stI_self]; simp [upd]
    · rw [stRow_ne (by omega), stI_self]; simp [upd]
    · rw [stRow_ne (by omega), stI_ne (by omega), stI_ne (by omega), stRow_self, stRow_self]; exact hfg j hj
    · rw [stRow_ne (by omega), stI_ne (by omega), stI_ne (by omega), stRow_ne (by omega)]
    · rw [stRow_ne (by omega), stI_ne (by omega), stI_ne (by omega), stRow_ne (by omega)]
    · rw [stRow_ne (by omega), stI_self, stI_ne (by omega), stRow_ne (by omega)]; simp [upd, hne]
    · rw [stRow_self]; exact hg _ (by omega)
  · exact H.pt.congr (fun k q => by rw [stRow_ne (by omega), stI_ne (by omega), stI_ne (by omega), stRow_ne (by omega)])
  · exact fun k q => by rw [stRow_ne (by omega), stI_ne (by omega), stI_ne (by omega), stRow_ne (by omega)]
set_option maxRecDepth 4000 in
theorem op_row (n : Nat) (hn : 100 < n) {S : aSt} (H : OK S) (r v : Int32) : Both S (F_X6_row n S 0 r v) (fun S1 => F_X7_row n S1 82 r v) := by
  by_cases hr : inb r 6 = true
  · obtain ⟨r, hr', rfl⟩ := inb_ex hr (by decide)
    have H0 := H
    obtain ⟨h, d, hX, hM, hA, hR, hT, -⟩ := H
    obtain ⟨x1, x2⟩ := xrow hX hr'
    obtain ⟨t1, t2, t3⟩ := rowT hr'
    have hc : (nI r).toNatClampNeg = r := nI_clamp (by omega)
    by_cases h40 : v ≤ 40
    · by_cases h0 : 0 ≤ v
      · obtain ⟨m, hm, rfl⟩ := nI_of2 (x := v) (M := 40) (n := 40) rfl (Int32.not_lt.mpr h0) h40
        refine ⟨nI m, stI (stRow S (41 + 2 * r + 1) (fil (S.1 (41 + 2 * r + 1)) 0 40 0)) (41 + 2 * r) 1 (nI m), _, ?_, ?_, H0.row hr' hm (fil (S.1 (41 + 2 * r + 1)) 0 40 0) (fil (S.1 84) (40 * r) 40 0) (fun i hi => ?_) (fun j hj => ?_)⟩
        · unfold F_X6_row
          simp only [nmE, jnE, bn2S, bndS, grdT, stI_22, stL_22, stRow_22, HR0, rfdS T_1, rfdS T_2, rfdS T_3, rfdS T_4, rfdS T_5, rfdS T_9, SZ_1, SZ_2, SZ_3, SZ_4, reduceIte, Bool.false_eq_true, one_ne0, X6_isRow_eq, hr, hX.2.1, hc, x1, x2, rfdS t1, rfdS t2, t3, X4_isThere_eq, h40, h0, X4_begin_eq n x2 t2 t3 (by decide) (show 40 < n by omega) hm]
        · refine (X7_row_eq n (S := stI (stRow S (41 + 2 * r + 1) (fil (S.1 (41 + 2 * r + 1)) 0 40 0)) (41 + 2 * r) 1 (nI m)) hM hr' hm hn).trans ?_
          rw [stI_ne (a := 84) (by omega), stRow_ne (a := 84) (by omega)]
        · unfold fil
          rw [if_pos (by omega), if_pos (by omega)]
        · unfold fil
          rw [if_neg hj]
      · refine Both.fnd H0 5 (by decide) ?_ ?_
        · unfold F_X6_row
          simp only [nmE, jnE, bn2S, bndS, grdT, stI_22, stL_22, stRow_22, HR0, rfdS T_1, rfdS T_2, rfdS T_3, rfdS T_4, rfdS T_5, rfdS T_9, SZ_1, SZ_2, SZ_3, SZ_4, reduceIte, Bool.false_eq_true, one_ne0, X6_isRow_eq, hr, hX.2.1, hc, x1, x2, rfdS t1, rfdS t2, t3, X4_isThere_eq, h40, h0, xf5 n hX]
        · have hM1 : (xFnd S 5).2.2 82 = HRm := hM
          unfold F_X7_row
          simp only [nmE, jnE, bn2S, bndS, grdT, stI_22, stL_22, stRow_22, HRm, rfdS T_83, rfdS T_84, rfdS T_85, rfdS T_86, rfdS T_87, rfdS T_88, rfdS T_89, rfdS T_90, rfdS T_91, rfdS T_92, rfdS T_93, rfdS T_94, rfdS T_95, rfdS T_96, SZ_83, SZ_84, SZ_85, SZ_86, SZ_87, SZ_88, SZ_89, SZ_90, SZ_91, SZ_92, SZ_93, SZ_94, SZ_95, SZ_96, reduceIte, Bool.false_eq_true, one_ne0, X7_isRow_eq, hr, hM1, hc, h40, h0, mf5 n (RfM_xFnd hM)]
    · refine Both.same H0 (-1) ?_ ?_
      · unfold F_X6_row
        simp only [nmE, jnE, bn2S, bndS, grdT, stI_22, stL_22, stRow_22, HR0, rfdS T_1, rfdS T_2, rfdS T_3, rfdS T_4, rfdS T_5, rfdS T_9, SZ_1, SZ_2, SZ_3, SZ_4, reduceIte, Bool.false_eq_true, one_ne0, X6_isRow_eq, hr, h40]
      · unfold F_X7_row
        simp only [nmE, jnE, bn2S, bndS, grdT, stI_22, stL_22, stRow_22, HRm, rfdS T_83, rfdS T_84, rfdS T_85, rfdS T_86, rfdS T_87, rfdS T_88, rfdS T_89, rfdS T_90, rfdS T_91, rfdS T_92, rfdS T_93, rfdS T_94, rfdS T_95, rfdS T_96, SZ_83, SZ_84, SZ_85, SZ_86, SZ_87, SZ_88, SZ_89, SZ_90, SZ_91, SZ_92, SZ_93, SZ_94, SZ_95, SZ_96, reduceIte, Bool.false_eq_true, one_ne0, X7_isRow_eq, hr, h40]
  · refine Both.same H (-1) ?_ ?_
    · unfold F_X6_row
      simp only [nmE, jnE, bn2S, bndS, grdT, stI_22, stL_22, stRow_22, HR0, rfdS T_1, rfdS T_2, rfdS T_3, rfdS T_4, rfdS T_5, rfdS T_9, SZ_1, SZ_2, SZ_3, SZ_4, reduceIte, Bool.false_eq_true, one_ne0, X6_isRow_eq, hr]
    · unfold F_X7_row
      simp only [nmE, jnE, bn2S, bndS, grdT, stI_22, stL_22, stRow_22, HRm, rfdS T_83, rfdS T_84, rfdS T_85, rfdS T_86, rfdS T_87, rfdS T_88, rfdS T_89, rfdS T_90, rfdS T_91, rfdS T_92, rfdS T_93, rfdS T_94, rfdS T_95, rfdS T_96, SZ_83, SZ_84, SZ_85, SZ_86, SZ_87, SZ_88, SZ_89, SZ_90, SZ_91, SZ_92, SZ_93, SZ_94, SZ_95, SZ_96, reduceIte, Bool.false_eq_true, one_ne0, X7_isRow_eq, hr]
