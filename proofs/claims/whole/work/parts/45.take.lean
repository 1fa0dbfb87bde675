/-! take, undo, right. -/
theorem X5_addTaking_eq (n : Nat) {S : aSt} {s T q c : Nat} (hr : S.2.2 s = HRn s 6) (t4 : isT (s + 4) 7 = true) (t5 : isT (s + 5) 7 = true) (t6 : isT (s + 6) 7 = true) (z4 : (SH (s + 4)).2 = 7) (z5 : (SH (s + 5)).2 = 40) (z6 : (SH (s + 6)).2 = 280) (e : S.1 s 6 = nI T) (hT : T < 40) (hq : q < 7) : F_X5_addTaking n S s (nI q) (nI c) = some (xTk S s T q c) := by
  have r3 : S.2.2 s 3 = some (s + 4) := by rw [hr]; simp [HRn, Nat.add_assoc]
  have r4 : S.2.2 s 4 = some (s + 5) := by rw [hr]; simp [HRn, Nat.add_assoc]
  have r5 : S.2.2 s 5 = some (s + 6) := by rw [hr]; simp [HRn, Nat.add_assoc]
  have e7 : nI T * (7 : Int32) = nI (T * 7) := pk_mul T 7
  have c7 : (nI (T * 7)).toNatClampNeg = T * 7 := nI_clamp (by omega)
  have hcp : cpok (0 : Int32) (nI (T * 7)) (7 : Int32) 7 280 = true := by
    simp only [cpok, c7, show (0 : Int32).toNatClampNeg = 0 from rfl, show (7 : Int32).toNatClampNeg = 7 from rfl, nI_pos (show T * 7 < 2 ^ 31 by omega), decide_false, Bool.not_false, Bool.true_and, Bool.and_true, show (decide ((0 : Int32) < 0)) = false by decide, show (decide ((7 : Int32) < 0)) = false by decide, Bool.and_eq_true, decide_eq_true_eq]
    omega
  have m10 : (10 : Int32) * nI q + nI c = nI (10 * q + c) := by rw [li_10, pk_mul, nI_add]
  unfold F_X5_addTaking
  rw [e, if_neg (nI_pos (by omega)), if_pos (show nI T < (40 : Int32) from nI_lt (b := 40) hT (by decide))]
  simp only [nmE, jnE, bn2S, bndS, grdT, stI_22, stL_22, stRow_22, r3, r4, r5, rfdS t4, rfdS t5, rfdS t6, z4, z5, z6, e7, hcp, c7, show (0 : Int32).toNatClampNeg = 0 from rfl, show (7 : Int32).toNatClampNeg = 7 from rfl, stRow_ne (show s ≠ s + 6 by omega), e, inb_nI (show T < 40 by omega) (by decide), nI_clamp (show T < 2 ^ 31 by omega), m10, stI_ne (show s ≠ s + 5 by omega), nI_1, inb_nI (show q < 7 by omega) (by decide), nI_clamp (show q < 2 ^ 31 by omega)]
  rfl
theorem X7_takesIt_eq (n : Nat) (hn : 10 < n) {S : aSt} (hM : RfM S) {T q c : Nat} (e : S.1 87 2 = nI T) (hT : T < 40) (hq : q < 7) : F_X7_takesIt n S 82 (nI q) (nI c) = some (mTk S T q c) := by
  have hM1 : S.2.2 82 = HRm := hM
  have k2 : (2 : Int32).toNatClampNeg = 2 := rfl
  have m10 : (10 : Int32) * nI q + nI c = nI (10 * q + c) := by rw [li_10, pk_mul, nI_add]
  have e73 : (73 : Int32) + nI T = nI (73 + T) := nI_add 73 T
  have e66 : (66 : Int32) + nI q = nI (66 + q) := nI_add 66 q
  unfold F_X7_takesIt
  simp only [nmE, jnE, bn2S, bndS, grdT, stI_22, stL_22, stRow_22, HRm, rfdS T_83, rfdS T_84, rfdS T_85, rfdS T_86, rfdS T_87, rfdS T_88, rfdS T_89, rfdS T_90, rfdS T_91, rfdS T_92, rfdS T_93, rfdS T_94, rfdS T_95, rfdS T_96, SZ_83, SZ_84, SZ_85, SZ_86, SZ_87, SZ_88, SZ_89, SZ_90, SZ_91, SZ_92, SZ_93, SZ_94, SZ_95, SZ_96, hM1, in2, k2, e]
  have key := fun (K : aSt → Option aSt) => lp_eq (fun fu a i => F_X7_takesIt_L10 82 (nI T) K fu i a) K (fun k => stRow S 87 (va_cpy (S.1 87) (S.1 87) 66 (113 + 7 * T) k)) 7
    (fun fu => by
      show F_X7_takesIt_L10 _ _ _ (fu + 1) _ _ = _
      rw [F_X7_takesIt_L10, if_pos (show (7 : Int32) ≤ nI 7 by decide)])
    (fun fu k hk => by
      show F_X7_takesIt_L10 _ _ _ (fu + 1) _ _ = F_X7_takesIt_L10 _ _ _ fu _ _
      have g66 : (66 : Int32) + nI k = nI (66 + k) := nI_add 66 k
      have g113 : (113 : Int32) + (7 : Int32) * nI T + nI k = nI (113 + 7 * T + k) := by rw [li_113, li_7, pk_mul, nI_add, nI_add]
      rw [F_X7_takesIt_L10, if_neg (li_9' k hk)]
      simp only [nmE, jnE, bn2S, bndS, grdT, stI_22, stL_22, stRow_22, HRm, rfdS T_83, rfdS T_84, rfdS T_85, rfdS T_86, rfdS T_87, rfdS T_88, rfdS T_89, rfdS T_90, rfdS T_91, rfdS T_92, rfdS T_93, rfdS T_94, rfdS T_95, rfdS T_96, SZ_83, SZ_84, SZ_85, SZ_86, SZ_87, SZ_88, SZ_89, SZ_90, SZ_91, SZ_92, SZ_93, SZ_94, SZ_95, SZ_96, hM1, g66, g113, inb_nI (show 66 + k < 393 by omega) (by decide), inb_nI (show 113 + 7 * T + k < 393 by omega) (by decide), nI_clamp (show 66 + k < 2 ^ 31 by omega), nI_clamp (show 113 + 7 * T + k < 2 ^ 31 by omega), stI_stRow, stRow_self, nI_1]
      congr 2
      funext x
      unfold upd va_cpy
      by_cases hx : x = 113 + 7 * T + k
      · subst hx
        rw [if_pos rfl, if_neg (by omega), if_pos (by omega)]
        exact congrArg (S.1 87) (by omega)
      · rw [if_neg hx]
        by_cases h2 : 113 + 7 * T ≤ x ∧ x < 113 + 7 * T + k
        · rw [if_pos h2, if_pos (by omega)]
        · rw [if_neg h2, if_neg (by omega)]) 7 0 n (by omega) (by omega)
  have z : va_cpy (S.1 87) (S.1 87) 66 (113 + 7 * T) 0 = S.1 87 := by
    funext x
    unfold va_cpy
    rw [if_neg (by omega)]
  simp only [z, stRow_id] at key
  rw [show (0 : Int32) = nI 0 from rfl, key]
  have ee : (va_cpy (S.1 87) (S.1 87) 66 (113 + 7 * T) 7) 2 = nI T := by
    unfold va_cpy
    rw [if_neg (by omega)]; exact e
  simp only [nmE, jnE, bn2S, bndS, grdT, stI_22, stL_22, stRow_22, HRm, rfdS T_83, rfdS T_84, rfdS T_85, rfdS T_86, rfdS T_87, rfdS T_88, rfdS T_89, rfdS T_90, rfdS T_91, rfdS T_92, rfdS T_93, rfdS T_94, rfdS T_95, rfdS T_96, SZ_83, SZ_84, SZ_85, SZ_86, SZ_87, SZ_88, SZ_89, SZ_90, SZ_91, SZ_92, SZ_93, SZ_94, SZ_95, SZ_96, hM1, e73, e66, m10, inb_nI (show 73 + T < 393 by omega) (by decide), inb_nI (show 66 + q < 393 by omega) (by decide), nI_clamp (show 73 + T < 2 ^ 31 by omega), nI_clamp (show 66 + q < 2 ^ 31 by omega), in2, k2, stI_stRow, stRow_self, pk_un (show 2 ≠ 66 + q by omega), pk_un (show 2 ≠ 73 + T by omega), ee, nI_1]
  rfl
section Lib5
variable {S : aSt} {h C Q T : Nat} {L : Nat → Nat → Nat}
theorem CX.tk (H : CX S h C Q T L) {q c : Nat} (hq : q < Q) (hc : c < C) (hT : T < 40) (hf : ∀ p, p < 7 → L 9 p ≠ c) : CX (xTk S (h + 7) T q c) h C Q (T + 1) (tk L T q c) := by
  obtain ⟨h1, h2, h3, h4, h5⟩ := H
  refine ⟨h1, h2, h3, ?_, h5.take hq hc hT hf⟩
  obtain ⟨a1, a2, a3, a4, a5⟩ := h4
  have oth : ∀ k, k < h + 7 → (xTk S (h + 7) T q c).1 k = S.1 k := fun k hk => by
    unfold xTk
    rw [stI_ne (by omega), stI_ne (by omega), stI_ne (by omega), stRow_ne (by omega)]
  refine ⟨?_, ?_, fun b hb => ⟨?_, ?_⟩, fun b hb => ⟨?_, ?_, ?_, ?_⟩, a5.take h5.1 hc⟩
  · rw [oth _ (by omega)]; exact a1
  · rw [oth _ (by omega)]; exact a2
  · rw [oth _ (by omega), tk_o (by decide)]; exact (a3 b hb).1
  · rw [oth _ (by omega), tk_o (by decide)]; exact (a3 b hb).2
  · rw [oth _ (by omega), tk_o (by decide)]; exact (a4 b hb).1
  · rw [oth _ (by omega), tk_o (by decide)]; exact (a4 b hb).2.1
  · rw [oth _ (by omega), tk_o (by decide)]; exact (a4 b hb).2.2.1
  · rw [oth _ (by omega), tk_o (by decide)]; exact (a4 b hb).2.2.2
theorem CM.tk (H : CM S C Q T L) {q c : Nat} (hq : q < Q) (hc : c < C) (hT : T < 40) (hf : ∀ p, p < 7 → L 9 p ≠ c) : CM (mTk S T q c) C Q (T + 1) (tk L T q c) := by
  obtain ⟨h1, h2, h3⟩ := H
  refine ⟨h1, ?_, h3.take hq hc hT hf⟩
  unfold mTk
  rw [stRow_self]
  exact PM.take h3.1 h3.2.1 hT h2 (by have := h3.2.1; omega) hc
theorem X1_addTaking_eq (n : Nat) (H : CX S h C Q T L) {q c : Nat} (hT : T < 40) (hq : q < 7) : F_X5_addTaking n S (h + 7) (nI q) (nI c) = some (xTk S (h + 7) T q c) :=
  X5_addTaking_eq n H.2.2.1 (tgs4 H.1) (tgs5 H.1) (tgs6 H.1) (sgs4 H.1) (sgs5 H.1) (sgs6 H.1) H.2.2.2.1.2.2.2.2.1 hT hq
/-- 0 wrong, 1 right, 2 unknown -/
def vd (L : Nat → Nat → Nat) (q : Nat) : Nat := if L 8 q = 99 then 2 else if me L (L 9 q) = L 8 q then 1 else 0
theorem X7_stands_eq (n : Nat) (H : CM S C Q T L) {q : Nat} (hq : q < Q) (ha : L 9 q ≠ 99) : F_X7_stands n S 82 (nI q) = some (nI (vd L q)) := by
  have H0 := H
  obtain ⟨hM1, hm, hw⟩ := H
  have hQ := hw.2.1
  have hac : L 9 q < C := by
    rcases hw.ans q (by omega) with h1 | h1
    · exact absurd h1 ha
    · exact h1.2.1
  have w8 := (hw.2.2.2.2.2.1 q hq).2.2.2.2.2
  have e59 : (59 : Int32) + nI q = nI (59 + q) := nI_add 59 q
  have e66 : (66 : Int32) + nI q = nI (66 + q) := nI_add 66 q
  have hme := hw.mle hac
  unfold F_X7_stands vd
  simp only [nmE, jnE, bn2S, bndS, grdT, stI_22, stL_22, stRow_22, HRm, rfdS T_83, rfdS T_84, rfdS T_85, rfdS T_86, rfdS T_87, rfdS T_88, rfdS T_89, rfdS T_90, rfdS T_91, rfdS T_92, rfdS T_93, rfdS T_94, rfdS T_95, rfdS T_96, SZ_83, SZ_84, SZ_85, SZ_86, SZ_87, SZ_88, SZ_89, SZ_90, SZ_91, SZ_92, SZ_93, SZ_94, SZ_95, SZ_96, hM1, e59, e66, inb_nI (show 59 + q < 393 by omega) (by decide), inb_nI (show 66 + q < 393 by omega) (by decide), nI_clamp (show 59 + q < 2 ^ 31 by omega), nI_clamp (show 66 + q < 2 ^ 31 by omega), (hm.2.2.2.2.1 q hq).2.2.2.2, hm.2.2.2.2.2.1 q (show q < 7 by omega) (hw.pos hq), en_nI ha, X7_means_eq n H0 hac, en_m9 (show L 8 q < 2 ^ 31 by omega)]
  by_cases k : L 8 q = 99
  · rw [if_pos k, if_pos k]; rfl
  · rw [if_neg k, if_neg k, en_nI k]
    by_cases k2 : me L (L 9 q) = L 8 q
    · rw [if_pos k2, k2, if_pos rfl]; rfl
    · rw [if_neg k2, if_neg (fun z => k2 ((nI_eq (by omega) (by omega)).mp z))]; rfl
theorem X1_verdict_eq (n : Nat) (H : CX S h C Q T L) {q : Nat} (hq : q < Q) : F_X1_verdict n S h (nI q) = some (nI (if L 9 q = 99 then 2 else vd L q)) := by
  have hw := H.2.2.2.2
  have hQ := hw.2.1
  have w8 := (hw.2.2.2.2.2.1 q hq).2.2.2.2.2
  have a2 := H.2.2.2.1.2.2.2.2.2.2.1 q hq
  have a3 := H.2.2.2.1.2.2.2.2.2.2.2.1 q (by omega)
  have hi := inb_nI (show q < 7 by omega) (by decide)
  have hcl : (nI q).toNatClampNeg = q := nI_clamp (by omega)
  unfold F_X1_verdict vd
  simp only [nmE, jnE, bn2S, bndS, grdT, stI_22, stL_22, stRow_22, X1_isFreeQuestion_eq n H (show q < 7 by omega), if10']
  by_cases ha : L 9 q = 99
  · rw [if_pos ha, if_pos ha]; rfl
  · rw [if_neg ha, if_neg ha]
    have hac : L 9 q < C := by
      rcases hw.ans q (by omega) with h1 | h1
      · exact absurd h1 ha
      · exact h1.2.1
    have hme := hw.mle hac
    simp only [nmE, jnE, bn2S, bndS, grdT, stI_22, stL_22, stRow_22, H.r6, H.s2, H.s3, rfdS (tg7 H.1), rfdS (tgs3 H.1), rfdS (tgs4 H.1), sgs3 H.1, sgs4 H.1, hi, hcl, a2, a3, en_m9 (show L 8 q < 2 ^ 31 by omega), en_nI ha, X1_meaningOf_eq n H hac]
    by_cases k : L 8 q = 99
    · rw [if_pos k, if_pos k]; rfl
    · rw [if_neg k, if_neg k, en_nI k]
      by_cases k2 : me L (L 9 q) = L 8 q
      · rw [if_pos k2, k2, if_pos rfl]; rfl
      · rw [if_neg k2, if_neg (fun z => k2 ((nI_eq (by omega) (by omega)).mp z))]; rfl
end Lib5
theorem OK.both {S S' : aSt} {h d C Q T' : Nat} {L L' : Nat → Nat → Nat} (H : OK S) (hX : RfX S h d) (hk : PK S C Q L) (er : S'.2.2 = S.2.2) (e2 : S'.2.1 = S.2.1) (ec : ∀ k, ¬ (h ≤ k ∧ k ≤ h + 13) → k ≠ 87 → S'.1 k = S.1 k) (hx' : CX S' h C Q T' L') (hm' : CM S' C Q T' L') (hs : ∀ i, L' 0 i = L 0 i ∧ L' 1 i = L 1 i ∧ L' 4 i = L 4 i ∧ L' 5 i = L 5 i ∧ L' 6 i = L 6 i ∧ L' 7 i = L 7 i) : OK S' :=
  H.lib hX hk er e2 ec hm'.2.2 hx'.2.2.2.1 hm'.2.1 hs
theorem CX.congr {S S' : aSt} {h C Q T : Nat} {L : Nat → Nat → Nat} (H : CX S h C Q T L) (er : S'.2.2 = S.2.2) (e : ∀ k, h ≤ k → k ≤ h + 13 → S'.1 k = S.1 k) : CX S' h C Q T L := by
  obtain ⟨h1, h2, h3, h4, h5⟩ := H
  exact ⟨h1, by rw [er]; exact h2, by rw [er]; exact h3, h4.congr e, h5⟩
theorem xTk_o {S : aSt} {s T q c k : Nat} (h : k < s ∨ s + 6 < k) : (xTk S s T q c).1 k = S.1 k := by
  unfold xTk
  rw [stI_ne (by omega), stI_ne (by omega), stI_ne (by omega), stRow_ne (by omega)]
theorem mTk_o {S : aSt} {T q c k : Nat} (h : k ≠ 87) : (mTk S T q c).1 k = S.1 k := by
  unfold mTk
  rw [stRow_ne h]
theorem op_take (n : Nat) (hn : 100 < n) {S : aSt} (H : OK S) (q c : Int32) : Both S (F_X6_take n S 0 q c) (fun S1 => F_X7_take n S1 82 q c) := by
  obtain ⟨h, d, C, Q, T, L, hX, hM, hCX, hCM, hk⟩ := H.get
  have hh := hCX.1
  have hC := hCM.2.2.1
  have hQ := hCM.2.2.2.1
  have hT := hCM.2.2.2.2.1
  by_cases hq : inb q Q = true
  rotate_left
  · refine Both.same H (-1) ?_ ?_
    · unfold F_X6_take
      simp only [X0_here hX, X1_isQuestion_eq n hCX, bndS, if10', reduceIte, Bool.false_eq_true, one_ne0, if_neg hq]
    · unfold F_X7_take
      simp only [X7_isQuestion_eq n hCM, bndS, if10', reduceIte, Bool.false_eq_true, one_ne0, if_neg hq]
  by_cases hc : inb c C = true
  rotate_left
  · refine Both.same H (-1) ?_ ?_
    · unfold F_X6_take
      simp only [X0_here hX, X1_isQuestion_eq n hCX, X1_isCard_eq n hCX, bndS, if10', reduceIte, Bool.false_eq_true, one_ne0, if_pos hq, if_neg hc]
    · unfold F_X7_take
      simp only [X7_isQuestion_eq n hCM, X7_isCard_eq n hCM, bndS, if10', reduceIte, Bool.false_eq_true, one_ne0, if_pos hq, if_neg hc]
  obtain ⟨q, hq', rfl⟩ := inb_ex hq (by omega)
  obtain ⟨c, hc', rfl⟩ := inb_ex hc (by omega)
  by_cases hg : ft L q c = true ∧ L 9 q = 99 ∧ aq L c = 99
  rotate_left
  · refine Both.same H (-4) ?_ ?_
    · unfold F_X6_take
      simp only [X0_here hX, X1_isQuestion_eq n hCX, X1_isCard_eq n hCX, bndS, if10', reduceIte, Bool.false_eq_true, one_ne0, if_pos hq, if_pos hc, X1_isFitting_eq n hCX hc' hq', X1_isFreeQuestion_eq n hCX (show q < 7 by omega), X1_isFreeCard_eq n (show 10 < n by omega) hCX (show c < 99 by omega)]
      by_cases k1 : ft L q c = true
      · by_cases k2 : L 9 q = 99
        · have k3 : ¬ aq L c = 99 := fun z => hg ⟨k1, k2, z⟩
          simp only [if_pos k1, if_pos k2, if_neg k3]
        · simp only [if_pos k1, if_neg k2]
      · simp only [if_neg k1]
    · unfold F_X7_take
      simp only [X7_isQuestion_eq n hCM, X7_isCard_eq n hCM, bndS, if10', reduceIte, Bool.false_eq_true, one_ne0, if_pos hq, if_pos hc, X7_isFit_eq n hCM hc' hq', X7_isFree_eq n hCM (show q < Q by omega), X7_isFreeCard_eq n (show 10 < n by omega) hCM (show c < 99 by omega)]
      by_cases k1 : ft L q c = true
      · by_cases k2 : L 9 q = 99
        · have k3 : ¬ aq L c = 99 := fun z => hg ⟨k1, k2, z⟩
          simp only [if_pos k1, if_pos k2, if_neg k3]
        · simp only [if_pos k1, if_neg k2]
      · simp only [if_neg k1]
  obtain ⟨k1, k2, k3⟩ := hg
  have hf := aq_99.mp k3
  have eT : S.1 (h + 7) 6 = nI T := hCX.2.2.2.1.2.2.2.2.1
  by_cases h40 : T < 40
  rotate_left
  · have : T = 40 := by omega
    subst this
    refine Both.same H (-2) ?_ ?_
    · unfold F_X6_take
      simp only [nmE, jnE, bn2S, bndS, grdT, stI_22, stL_22, stRow_22, X0_here hX, X1_isQuestion_eq n hCX, X1_isCard_eq n hCX, if10', reduceIte, Bool.false_eq_true, one_ne0, if_pos hq, if_pos hc, X1_isFitting_eq n hCX hc' hq', X1_isFreeQuestion_eq n hCX (show q < 7 by omega), X1_isFreeCard_eq n (show 10 < n by omega) hCX (show c < 99 by omega), if_pos k1, if_pos k2, if_pos k3, hCX.r6, rfdS (tg7 hh), eT, show ¬ nI 40 < (40 : Int32) by decide]
    · unfold F_X7_take
      simp only [nmE, jnE, bn2S, bndS, grdT, stI_22, stL_22, stRow_22, HRm, rfdS T_83, rfdS T_84, rfdS T_85, rfdS T_86, rfdS T_87, rfdS T_88, rfdS T_89, rfdS T_90, rfdS T_91, rfdS T_92, rfdS T_93, rfdS T_94, rfdS T_95, rfdS T_96, SZ_83, SZ_84, SZ_85, SZ_86, SZ_87, SZ_88, SZ_89, SZ_90, SZ_91, SZ_92, SZ_93, SZ_94, SZ_95, SZ_96, X7_isQuestion_eq n hCM, X7_isCard_eq n hCM, if10', reduceIte, Bool.false_eq_true, one_ne0, if_pos hq, if_pos hc, X7_isFit_eq n hCM hc' hq', X7_isFree_eq n hCM (show q < Q by omega), X7_isFreeCard_eq n (show 10 < n by omega) hCM (show c < 99 by omega), if_pos k1, if_pos k2, if_pos k3, hCM.1, in2, hCM.v2, show (nI 40 = (40 : Int32)) by decide]
  have hX1 := hCX.tk hq' hc' h40 hf
  have hCM0 : CM (xTk S (h + 7) T q c) C Q T L := hCM.congr rfl (xTk_o (by omega))
  have hM1 := hCM0.tk hq' hc' h40 hf
  have hx2 : CX (mTk (xTk S (h + 7) T q c) T q c) h C Q (T + 1) (tk L T q c) := hX1.congr rfl (fun k a b => mTk_o (by omega))
  have n9 : tk L T q c 9 q ≠ 99 := by rw [tk_9, if_pos rfl]; omega
  refine ⟨nI (vd (tk L T q c) q), xTk S (h + 7) T q c, mTk (xTk S (h + 7) T q c) T q c, ?_, ?_, ?_⟩
  · unfold F_X6_take
    have hX2 : RfX (xTk S (h + 7) T q c) h d := hX
    have hv := X1_verdict_eq n hX1 hq'
    rw [if_neg n9] at hv
    simp only [nmE, jnE, bn2S, bndS, grdT, stI_22, stL_22, stRow_22, X0_here hX, X0_here hX2, X1_isQuestion_eq n hCX, X1_isCard_eq n hCX, if10', reduceIte, Bool.false_eq_true, one_ne0, if_pos hq, if_pos hc, X1_isFitting_eq n hCX hc' hq', X1_isFreeQuestion_eq n hCX (show q < 7 by omega), X1_isFreeCard_eq n (show 10 < n by omega) hCX (show c < 99 by omega), if_pos k1, if_pos k2, if_pos k3, hCX.r6, rfdS (tg7 hh), eT, show nI T < (40 : Int32) from nI_lt (b := 40) h40 (by decide), X1_addTaking_eq n hCX h40 (show q < 7 by omega), hv]
  · show F_X7_take n (xTk S (h + 7) T q c) 82 (nI q) (nI c) = _
    unfold F_X7_take
    simp only [nmE, jnE, bn2S, bndS, grdT, stI_22, stL_22, stRow_22, HRm, rfdS T_83, rfdS T_84, rfdS T_85, rfdS T_86, rfdS T_87, rfdS T_88, rfdS T_89, rfdS T_90, rfdS T_91, rfdS T_92, rfdS T_93, rfdS T_94, rfdS T_95, rfdS T_96, SZ_83, SZ_84, SZ_85, SZ_86, SZ_87, SZ_88, SZ_89, SZ_90, SZ_91, SZ_92, SZ_93, SZ_94, SZ_95, SZ_96, X7_isQuestion_eq n hCM0, X7_isCard_eq n hCM0, if10', reduceIte, Bool.false_eq_true, one_ne0, if_pos hq, if_pos hc, X7_isFit_eq n hCM0 hc' hq', X7_isFree_eq n hCM0 (show q < Q by omega), X7_isFreeCard_eq n (show 10 < n by omega) hCM0 (show c < 99 by omega), if_pos k1, if_pos k2, if_pos k3, hCM0.1, in2, hCM0.v2, show ¬ (nI T = (40 : Int32)) from fun z => by have := (nI_eq (a := T) (b := 40) (by omega) (by decide)).mp z; omega, X7_takesIt_eq n (show 10 < n by omega) (show RfM (xTk S (h + 7) T q c) from hM) hCM0.2.1.2.2.1 h40 (show q < 7 by omega), X7_stands_eq n hM1 hq' n9]
  · refine H.both hX hk rfl rfl (fun k a b => ?_) hx2 hM1 (fun i => ⟨tk_o (by decide), tk_o (by decide), tk_o (by decide), tk_o (by decide), tk_o (by decide), tk_o (by decide)⟩)
    rw [mTk_o b, xTk_o (by omega)]
