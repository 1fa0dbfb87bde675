/-! Rows: mean, copy. -/
def sL (f : Nat → Int32) : Nat → Int64
  | 0 => 0
  | c + 1 => sL f c + (f c).toInt64
theorem sL_cong {f g : Nat → Int32} : ∀ {m : Nat}, (∀ i, i < m → f i = g i) → sL f m = sL g m
  | 0, _ => rfl
  | m + 1, h => by rw [sL, sL, sL_cong (fun i hi => h i (by omega)), h m (by omega)]
theorem X6_mean_loop (n : Nat) {S : aSt} {k N m : Nat} (hr : S.2.2 k 0 = some (k + 1)) (hT : isT (k + 1) 7 = true) (hN : (SH (k + 1)).2 = N) (h : N < 2 ^ 31) (hn : N < n) (hm : m ≤ N) (e : S.1 k 1 = nI m) (K : Int64 → Option (Int32 × aSt)) : F_X6_mean_L47 S k K n 0 0 = K (sL (S.1 (k + 1)) m) := by
  exact lp_eq (fun fu a i => F_X6_mean_L47 S k K fu a i) K (fun c => sL (S.1 (k + 1)) c) m
    (fun fu => by
      show F_X6_mean_L47 S k K (fu + 1) _ _ = _
      rw [F_X6_mean_L47, e, if_pos (Int32.le_refl _)])
    (fun fu c hc => by
      show F_X6_mean_L47 S k K (fu + 1) _ _ = F_X6_mean_L47 S k K fu _ _
      rw [F_X6_mean_L47, e, if_neg (nI_ge hc (by omega))]
      simp only [nmE, jnE, bn2S, bndS, grdT, stI_22, stL_22, stRow_22, hr, rfdS hT, hN, inb_nI (show c < N by omega) h, nI_clamp (show c < 2 ^ 31 by omega), nI_1]
      rfl) m 0 n (by omega) (by omega)
theorem X7_mean_loop (n : Nat) {S : aSt} (hM : RfM S) {r m : Nat} (hr : r < 6) (hm : m ≤ 40) (hn : 40 < n) (e : S.1 83 r = nI m) (K : Int64 → Option (Int32 × aSt)) : F_X7_mean_L44 S 82 (nI r) 83 K n 0 0 = K (sL (fun i => S.1 84 (40 * r + i)) m) := by
  have hM' : S.2.2 82 = HRm := hM
  have hi : inb (nI r) 6 = true := inb_nI hr (by decide)
  have hc : (nI r).toNatClampNeg = r := nI_clamp (by omega)
  exact lp_eq (fun fu a i => F_X7_mean_L44 S 82 (nI r) 83 K fu a i) K (fun c => sL (fun i => S.1 84 (40 * r + i)) c) m
    (fun fu => by
      show F_X7_mean_L44 S _ _ _ K (fu + 1) _ _ = _
      rw [F_X7_mean_L44]
      simp only [nmE, jnE, bn2S, bndS, grdT, stI_22, stL_22, stRow_22, HRm, rfdS T_83, rfdS T_84, rfdS T_85, rfdS T_86, rfdS T_87, rfdS T_88, rfdS T_89, rfdS T_90, rfdS T_91, rfdS T_92, rfdS T_93, rfdS T_94, rfdS T_95, rfdS T_96, SZ_83, SZ_84, SZ_85, SZ_86, SZ_87, SZ_88, SZ_89, SZ_90, SZ_91, SZ_92, SZ_93, SZ_94, SZ_95, SZ_96, hi, hc, e]
      rw [if_pos (Int32.le_refl _)])
    (fun fu c hc' => by
      show F_X7_mean_L44 S _ _ _ K (fu + 1) _ _ = F_X7_mean_L44 S _ _ _ K fu _ _
      rw [F_X7_mean_L44]
      simp only [nmE, jnE, bn2S, bndS, grdT, stI_22, stL_22, stRow_22, HRm, rfdS T_83, rfdS T_84, rfdS T_85, rfdS T_86, rfdS T_87, rfdS T_88, rfdS T_89, rfdS T_90, rfdS T_91, rfdS T_92, rfdS T_93, rfdS T_94, rfdS T_95, rfdS T_96, SZ_83, SZ_84, SZ_85, SZ_86, SZ_87, SZ_88, SZ_89, SZ_90, SZ_91, SZ_92, SZ_93, SZ_94, SZ_95, SZ_96, hi, hc, e]
      rw [if_neg (nI_ge hc' (by omega))]
      simp only [nmE, jnE, bn2S, bndS, grdT, stI_22, stL_22, stRow_22, HRm, rfdS T_83, rfdS T_84, rfdS T_85, rfdS T_86, rfdS T_87, rfdS T_88, rfdS T_89, rfdS T_90, rfdS T_91, rfdS T_92, rfdS T_93, rfdS T_94, rfdS T_95, rfdS T_96, SZ_83, SZ_84, SZ_85, SZ_86, SZ_87, SZ_88, SZ_89, SZ_90, SZ_91, SZ_92, SZ_93, SZ_94, SZ_95, SZ_96, hM', li_40, pk_mul, nI_add, inb_nI (show 40 * r + c < 240 by omega) (by decide), nI_clamp (show 40 * r + c < 2 ^ 31 by omega), nI_1]
      rfl) m 0 n (by omega) (by omega)
theorem nI64_ne {m : Nat} (h : m < 2 ^ 31) (h0 : m ≠ 0) : (!decide ((nI m).toInt64 = 0)) = true := by
  have : ¬ (nI m).toInt64 = 0 := by
    rw [nI_l h, show (0 : Int64) = lN 0 from rfl, lN_eq h (by decide)]
    exact h0
  simp [this]
set_option maxRecDepth 4000 in
theorem op_mean (n : Nat) (hn : 100 < n) {S : aSt} (H : OK S) (r : Int32) : Both S (F_X6_mean n S 0 r) (fun S1 => F_X7_mean n S1 82 r) := by
  by_cases hr : inb r 6 = true
  · obtain ⟨r, hr', rfl⟩ := inb_ex hr (by decide)
    have H0 := H
    obtain ⟨h, d, hX, hM, hA, hR, hT, -⟩ := H
    obtain ⟨x1, x2⟩ := xrow hX hr'
    obtain ⟨t1, t2, t3⟩ := rowT hr'
    have hc : (nI r).toNatClampNeg = r := nI_clamp (by omega)
    obtain ⟨e1, e2⟩ := hR r hr'
    rcases e2 with e2 | ⟨m, hm, e2, e3⟩
    · refine Both.fnd H0 1 (by decide) ?_ ?_
      · unfold F_X6_mean
        simp only [nmE, jnE, bn2S, bndS, grdT, stI_22, stL_22, stRow_22, HR0, rfdS T_1, rfdS T_2, rfdS T_3, rfdS T_4, rfdS T_5, rfdS T_9, SZ_1, SZ_2, SZ_3, SZ_4, reduceIte, Bool.false_eq_true, one_ne0, X6_isRow_eq, hr, hX.2.1, hc, x1, x2, rfdS t1, rfdS t2, t3, X4_isThere_eq, e1, e2, xf1 n hX]
      · have hM1 : (xFnd S 1).2.2 82 = HRm := hM
        unfold F_X7_mean
        simp only [nmE, jnE, bn2S, bndS, grdT, stI_22, stL_22, stRow_22, HRm, rfdS T_83, rfdS T_84, rfdS T_85, rfdS T_86, rfdS T_87, rfdS T_88, rfdS T_89, rfdS T_90, rfdS T_91, rfdS T_92, rfdS T_93, rfdS T_94, rfdS T_95, rfdS T_96, SZ_83, SZ_84, SZ_85, SZ_86, SZ_87, SZ_88, SZ_89, SZ_90, SZ_91, SZ_92, SZ_93, SZ_94, SZ_95, SZ_96, reduceIte, Bool.false_eq_true, one_ne0, X7_isRow_eq, hr, hM1, hc, xFnd_m (show 5 ≤ 83 by decide), e2, m1_lt, mf1 n (RfM_xFnd hM)]
    · have e1' := e1.trans e2
      by_cases h0 : m = 0
      · subst h0
        have z0 : nI 0 = 0 := rfl
        refine Both.fnd H0 4 (by decide) ?_ ?_
        · unfold F_X6_mean
          simp only [nmE, jnE, bn2S, bndS, grdT, stI_22, stL_22, stRow_22, HR0, rfdS T_1, rfdS T_2, rfdS T_3, rfdS T_4, rfdS T_5, rfdS T_9, SZ_1, SZ_2, SZ_3, SZ_4, reduceIte, Bool.false_eq_true, one_ne0, X6_isRow_eq, hr, hX.2.1, hc, x1, x2, rfdS t1, rfdS t2, t3, X4_isThere_eq, e1', nI_nm1 (show 0 < 2 ^ 31 by decide), xf4 n hX]
          simp only [z0, reduceIte]
        · have hM1 : (xFnd S 4).2.2 82 = HRm := hM
          unfold F_X7_mean
          simp only [nmE, jnE, bn2S, bndS, grdT, stI_22, stL_22, stRow_22, HRm, rfdS T_83, rfdS T_84, rfdS T_85, rfdS T_86, rfdS T_87, rfdS T_88, rfdS T_89, rfdS T_90, rfdS T_91, rfdS T_92, rfdS T_93, rfdS T_94, rfdS T_95, rfdS T_96, SZ_83, SZ_84, SZ_85, SZ_86, SZ_87, SZ_88, SZ_89, SZ_90, SZ_91, SZ_92, SZ_93, SZ_94, SZ_95, SZ_96, reduceIte, Bool.false_eq_true, one_ne0, X7_isRow_eq, hr, hM1, hc, xFnd_m (show 5 ≤ 83 by decide), e2, nI_ge0 (show 0 < 2 ^ 31 by decide), mf4 n (RfM_xFnd hM)]
          simp only [z0, reduceIte]
      · refine Both.tell H0 (sL (fun i => S.1 84 (40 * r + i)) m / (nI m).toInt64).toInt32 1 ?_ ?_
        · unfold F_X6_mean
          simp only [nmE, jnE, bn2S, bndS, grdT, stI_22, stL_22, stRow_22, HR0, rfdS T_1, rfdS T_2, rfdS T_3, rfdS T_4, rfdS T_5, rfdS T_9, SZ_1, SZ_2, SZ_3, SZ_4, reduceIte, Bool.false_eq_true, one_ne0, X6_isRow_eq, hr, hX.2.1, hc, x1, x2, rfdS t1, rfdS t2, t3, X4_isThere_eq, e1', nI_nm1 (show m < 2 ^ 31 by omega), nI_ne0 (show 0 < m by omega) (show m < 2 ^ 31 by omega)]
          rw [X6_mean_loop n x2 t2 t3 (by decide) (by omega) hm e1']
          simp only [nI64_ne (show m < 2 ^ 31 by omega) h0, grdT, nmE, sL_cong e3]
          rfl
        · generalize hv : (sL (fun i => S.1 84 (40 * r + i)) m / (nI m).toInt64).toInt32 = v
          have hM1 : (xTell S v).2.2 82 = HRm := hM
          unfold F_X7_mean
          simp only [nmE, jnE, bn2S, bndS, grdT, stI_22, stL_22, stRow_22, HRm, rfdS T_83, rfdS T_84, rfdS T_85, rfdS T_86, rfdS T_87, rfdS T_88, rfdS T_89, rfdS T_90, rfdS T_91, rfdS T_92, rfdS T_93, rfdS T_94, rfdS T_95, rfdS T_96, SZ_83, SZ_84, SZ_85, SZ_86, SZ_87, SZ_88, SZ_89, SZ_90, SZ_91, SZ_92, SZ_93, SZ_94, SZ_95, SZ_96, reduceIte, Bool.false_eq_true, one_ne0, X7_isRow_eq, hr, hM1, hc, xTell_m (show 1 ≤ 83 by decide), e2, nI_ge0 (show m < 2 ^ 31 by omega), nI_ne0 (show 0 < m by omega) (show m < 2 ^ 31 by omega)]
          rw [X7_mean_loop n (S := xTell S v) hM hr' hm (by omega) e2]
          simp only [nI64_ne (show m < 2 ^ 31 by omega) h0, grdT, X7_tell_eq, bn2S, xTell_m (show 1 ≤ 84 by decide), hv]
  · refine Both.same H (-1) ?_ ?_
    · unfold F_X6_mean
      simp only [nmE, jnE, bn2S, bndS, grdT, stI_22, stL_22, stRow_22, HR0, rfdS T_1, rfdS T_2, rfdS T_3, rfdS T_4, rfdS T_5, rfdS T_9, SZ_1, SZ_2, SZ_3, SZ_4, reduceIte, Bool.false_eq_true, one_ne0, X6_isRow_eq, hr]
    · unfold F_X7_mean
      simp only [nmE, jnE, bn2S, bndS, grdT, stI_22, stL_22, stRow_22, HRm, rfdS T_83, rfdS T_84, rfdS T_85, rfdS T_86, rfdS T_87, rfdS T_88, rfdS T_89, rfdS T_90, rfdS T_91, rfdS T_92, rfdS T_93, rfdS T_94, rfdS T_95, rfdS T_96, SZ_83, SZ_84, SZ_85, SZ_86, SZ_87, SZ_88, SZ_89, SZ_90, SZ_91, SZ_92, SZ_93, SZ_94, SZ_95, SZ_96, reduceIte, Bool.false_eq_true, one_ne0, X7_isRow_eq, hr]
/-! copy -/
theorem lt0 (x : Int32) : x < 0 ↔ x.toInt < 0 := by rw [Int32.lt_iff_toInt_lt]; rfl
theorem ge0 (x : Int32) : (0 : Int32) ≤ x ↔ 0 ≤ x.toInt := by rw [Int32.le_iff_toInt_le]; rfl
theorem X4_holds_eq (n : Nat) {S : aSt} {k m : Nat} (hm : m < 2 ^ 31) (e : S.1 k 1 = nI m) (i c : Int32) : F_X4_holds n S k i c = some (if 0 ≤ i.toInt ∧ 0 ≤ c.toInt ∧ i.toInt + c.toInt ≤ m then 1 else 0) := by
  have em := nI_toInt hm
  unfold F_X4_holds
  rw [e]
  by_cases h1 : i < 0
  · rw [if_pos h1, if_neg]
    rw [lt0] at h1; omega
  rw [if_neg h1]
  by_cases h2 : c < 0
  · rw [if_pos h2, if_neg]
    rw [lt0] at h2; omega
  rw [if_neg h2]
  rw [lt0] at h1 h2
  by_cases h3 : nI m < c
  · rw [if_pos h3, if_neg]
    rw [Int32.lt_iff_toInt_lt, em] at h3; omega
  rw [if_neg h3]
  rw [Int32.lt_iff_toInt_lt, em] at h3
  have es : (nI m - c).toInt = m - c.toInt := by rw [fb_subI (by rw [em]; omega) (by rw [em]; omega), em]
  by_cases h4 : nI m - c < i
  · rw [if_pos h4, if_neg]
    rw [Int32.lt_iff_toInt_lt, es] at h4; omega
  · rw [if_neg h4, if_pos]
    rw [Int32.lt_iff_toInt_lt, es] at h4; omega
theorem sum64 (x y : Int32) : (x.toInt64 + y.toInt64).toInt = x.toInt + y.toInt := by
  have h1 := fb_rng x
  have h2 := fb_rng y
  rw [fb_addL (by rw [Int32.toInt_toInt64, Int32.toInt_toInt64]; omega) (by rw [Int32.toInt_toInt64, Int32.toInt_toInt64]; omega), Int32.toInt_toInt64, Int32.toInt_toInt64]
theorem cmp64 (x y : Int32) {m : Nat} (hm : m < 2 ^ 31) : lg_cmp (x.toInt64 + y.toInt64) (nI m).toInt64 ≤ 0 ↔ x.toInt + y.toInt ≤ m := by
  rw [lg_cmp_le, Int64.le_iff_toInt_le, sum64, Int32.toInt_toInt64, nI_toInt hm]
theorem X7_copy_loop (n : Nat) {S : aSt} (hM : RfM S) {r t i j c : Nat} (hr : r < 6) (ht : t < 6) (hi : i + c ≤ 40) (hj : j + c ≤ 40) (hn : 100 < n) (K : aSt → Option (Int32 × aSt)) : F_X7_copy_L104 82 (nI r) (nI i) (nI t) (nI j) (nI c) K n 0 S = K (stRow S 84 (va_cpy (S.1 84) (S.1 84) (40 * r + i) (40 * t + j) c)) := by
  have hM' : S.2.2 82 = HRm := hM
  by_cases hd : j ≤ i
  · have key := lp_eq (fun fu a x => F_X7_copy_L104 82 (nI r) (nI i) (nI t) (nI j) (nI c) K fu x a) K (fun k => stRow S 84 (va_cpy (S.1 84) (S.1 84) (40 * r + i) (40 * t + j) k)) c
      (fun fu => by
        show F_X7_copy_L104 _ _ _ _ _ _ _ (fu + 1) _ _ = _
        rw [F_X7_copy_L104, if_pos (Int32.le_refl _)])
      (fun fu k hk => by
        show F_X7_copy_L104 _ _ _ _ _ _ _ (fu + 1) _ _ = F_X7_copy_L104 _ _ _ _ _ _ _ fu _ _
        rw [F_X7_copy_L104, if_neg (nI_ge hk (by omega))]
        simp only [nmE, jnE, bn2S, bndS, grdT, stI_22, stL_22, stRow_22, HRm, rfdS T_83, rfdS T_84, rfdS T_85, rfdS T_86, rfdS T_87, rfdS T_88, rfdS T_89, rfdS T_90, rfdS T_91, rfdS T_92, rfdS T_93, rfdS T_94, rfdS T_95, rfdS T_96, SZ_83, SZ_84, SZ_85, SZ_86, SZ_87, SZ_88, SZ_89, SZ_90, SZ_91, SZ_92, SZ_93, SZ_94, SZ_95, SZ_96, hM', (nI_leI (show j < 2 ^ 31 by omega) (show i < 2 ^ 31 by omega)).mpr hd, if_true, li_40, pk_mul, nI_add, inb_nI (show 40 * r + i + k < 240 by omega) (by decide), inb_nI (show 40 * t + j + k < 240 by omega) (by decide), nI_clamp (show 40 * r + i + k < 2 ^ 31 by omega), nI_clamp (show 40 * t + j + k < 2 ^ 31 by omega), stI_stRow, nI_1, stRow_self]
        congr 2
        funext x
        unfold upd va_cpy
        by_cases hx : x = 40 * t + j + k
        · subst hx
          have hng : ¬ (40 * t + j ≤ 40 * r + i + k ∧ 40 * r + i + k < 40 * t + j + k) := by
            rcases Nat.lt_trichotomy r t with q | q | q <;> omega
          have : 40 * r + i + (40 * t + j + k - (40 * t + j)) = 40 * r + i + k := by omega
          rw [if_pos rfl, if_neg hng, if_pos (by omega), this]
        · rw [if_neg hx]
          by_cases h2 : 40 * t + j ≤ x ∧ x < 40 * t + j + k
          · rw [if_pos h2, if_pos (by omega)]
          · rw [if_neg h2, if_neg (by omega)]) c 0 n (by omega) (by omega)
    have z : va_cpy (S.1 84) (S.1 84) (40 * r + i) (40 * t + j) 0 = S.1 84 := by
      funext x
      unfold va_cpy
      rw [if_neg (by omega)]
    simp only [z, stRow_id] at key
    exact key
  · have key := lp_eq (fun fu a x => F_X7_copy_L104 82 (nI r) (nI i) (nI t) (nI j) (nI c) K fu x a) K (fun k => stRow S 84 (va_cpy (S.1 84) (S.1 84) (40 * r + i + (c - k)) (40 * t + j + (c - k)) k)) c
      (fun fu => by
        show F_X7_copy_L104 _ _ _ _ _ _ _ (fu + 1) _ _ = _
        rw [F_X7_copy_L104, if_pos (Int32.le_refl _)])
      (fun fu k hk => by
        show F_X7_copy_L104 _ _ _ _ _ _ _ (fu + 1) _ _ = F_X7_copy_L104 _ _ _ _ _ _ _ fu _ _
        rw [F_X7_copy_L104, if_neg (nI_ge hk (by omega))]
        have ep : nI c - 1 - nI k = nI (c - 1 - k) := by
          rw [li_1, pk_sub (by omega), pk_sub (by omega)]
        simp only [nmE, jnE, bn2S, bndS, grdT, stI_22, stL_22, stRow_22, HRm, rfdS T_83, rfdS T_84, rfdS T_85, rfdS T_86, rfdS T_87, rfdS T_88, rfdS T_89, rfdS T_90, rfdS T_91, rfdS T_92, rfdS T_93, rfdS T_94, rfdS T_95, rfdS T_96, SZ_83, SZ_84, SZ_85, SZ_86, SZ_87, SZ_88, SZ_89, SZ_90, SZ_91, SZ_92, SZ_93, SZ_94, SZ_95, SZ_96, hM', (show ¬ nI j ≤ nI i from fun q => hd ((nI_leI (show j < 2 ^ 31 by omega) (show i < 2 ^ 31 by omega)).mp q)), if_false, ep, li_40, pk_mul, nI_add, inb_nI (show 40 * r + i + (c - 1 - k) < 240 by omega) (by decide), inb_nI (show 40 * t + j + (c - 1 - k) < 240 by omega) (by decide), nI_clamp (show 40 * r + i + (c - 1 - k) < 2 ^ 31 by omega), nI_clamp (show 40 * t + j + (c - 1 - k) < 2 ^ 31 by omega), stI_stRow, nI_1, stRow_self]
        congr 2
        funext x
        unfold upd va_cpy
        by_cases hx : x = 40 * t + j + (c - 1 - k)
        · subst hx
          have hng : ¬ (40 * t + j + (c - k) ≤ 40 * r + i + (c - 1 - k) ∧ 40 * r + i + (c - 1 - k) < 40 * t + j + (c - k) + k) := by
            rcases Nat.lt_trichotomy r t with q | q | q <;> omega
          have : 40 * r + i + (c - (k + 1)) + (40 * t + j + (c - 1 - k) - (40 * t + j + (c - (k + 1)))) = 40 * r + i + (c - 1 - k) := by omega
          rw [if_pos rfl, if_neg hng, if_pos (by omega), this]
        · rw [if_neg hx]
          by_cases h2 : 40 * t + j + (c - k) ≤ x ∧ x < 40 * t + j + (c - k) + k
          · rw [if_pos h2, if_pos (by omega)]
            exact congrArg (S.1 84) (by omega)
          · rw [if_neg h2, if_neg (by omega)]) c 0 n (by omega) (by omega)
    have z : va_cpy (S.1 84) (S.1 84) (40 * r + i + (c - 0)) (40 * t + j + (c - 0)) 0 = S.1 84 := by
      funext x
      unfold va_cpy
      rw [if_neg (by omega)]
    simp only [z, stRow_id, Nat.sub_self, Nat.add_zero] at key
    exact key
